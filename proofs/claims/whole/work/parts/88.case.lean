/-! The law's cases. -/
abbrev AL (s : State) : Nat → Prop := fun q => s.heap.size ≤ q
/-- what holds between two calls -/
def LJ (p : Program) (l : Launch) (e : Env) (s : State) (m : MethodId) (below : List Frame) (meth : Method) (c : Code) (b : Nat) (D : va_G) (ti : Nat → ClassId) (co mo ou i cells slots : Nat) (Q : State → Prop) (pc : Nat) : Prop :=
  ∀ (H : Heap) (locs : List Loc) (ls : Array Slot) (wc wr : va_W) (f : Nat → Int64) (σ : KS) (st : Int32) (m0 : Nat) (th : Int32), KI ti co σ st m0 wc → RI ti mo σ st m0 th wr → m0 ≤ 8 → Lv D clz (ty4 ti) (AL s) s.heap ((ou, lo ti f) :: (wc ++ wr)) s H locs → lv_has ls 7 [(4, .int (nI i)), (3, .ref ou), (2, .ref mo), (1, .ref co), (0, .ref b)] → W p l e room_1 s m #[Value.ref b] below meth c H locs cells slots Q (F0 m pc ls [])
theorem Pz.consf {wc wr : va_W} {P : va_W → Prop} (z : Pz wc P) {A : Nat → Prop} {a : Nat} {x x' : va_E} (h : va_D A (((a, x) :: wc) ++ wr)) : va_D A (((a, x') :: z.1) ++ wr) :=
  qD_perm (by simp only [List.map_cons, List.map_append, List.cons_append]; exact (z.2.2.append_right _).cons a) h
theorem Pz.backf {wr : va_W} {P : va_W → Prop} (z : Pz wr P) {A : Nat → Prop} {X : va_W} (h : va_D A (X ++ wr)) : va_D A (X ++ z.1) :=
  qD_perm (by simp only [List.map_append]; exact z.2.2.append_left _) h
theorem at_mo {x : Nat × va_E} {wc wr : va_W} {q : Nat × va_E} (h : wr[0]? = some q) : (x :: (wc ++ wr))[wc.length + 1]? = some q := by
  rw [List.getElem?_cons_succ, List.getElem?_append_right (Nat.le_refl _), Nat.sub_self]
  exact h
theorem at_co {x : Nat × va_E} {wc wr : va_W} {q : Nat × va_E} (h : wc[69]? = some q) : ([x] ++ (wc ++ wr))[70]? = some q := cons_at (x := x) (wc := wc ++ wr) (app_at h)
theorem law_sld {p : Program} {l : Launch} {e : Env} {R : Room} {s : State} {m : MethodId} {args : Array Value} {below : List Frame} {meth : Method} {c : Code} {H : Heap} {locs : List Loc} {cells slots : Nat} {Q : State → Prop} {cc : ByteArray} {pc nL : Nat} {ls : Array Slot} {rest : List Value} {Ts : List Cond} {own : String} {b L : Nat} {xs : Nat → Int32} {D : va_G} {cl : List vw_C} {tys : List (ClassId × FieldType)} {ws : va_W}
    (S0 : CallFix p m c cc nL s args Ts own) (hX : va_X b L xs s s.heap) (hbl : b < s.heap.size) (hw : Lv D cl tys (AL s) s.heap ws s H locs) {k : Nat} (hk : k < L) (hL : L < 2 ^ 31) (hdg : decode cc pc = .ok (.iaload, 1))
    (kk : W p l e R s m args below meth c H locs cells slots Q (F0 m (pc + 1) ls (.int (xs k) :: rest))) : W p l e R s m args below meth c H locs cells slots Q (F0 m pc ls (.int (nI k) :: .ref b :: rest)) :=
  va_sld S0.1 S0.2.1 hX hbl (Nat.not_le.mpr hbl) hw.2.2.2 (vp_in_nI hk hL) hdg (by rw [nI_clamp (Nat.lt_trans hk hL)]; exact kk)
theorem upd_0 (f : Nat → Int64) (v : Int64) : vp_updL f 0 v 0 = v := by simp [vp_updL]
theorem gr1_39 (R : Nat → Cap) (m : Nat) (c : Cap) : ∀ r, r ≤ 37 → gr1 (va_up R 39 c) m r = gr1 R m r := by
  intro r
  induction r with
  | zero => intro _; rfl
  | succ r ih =>
    intro h
    show gr1 (va_up R 39 c) m r + (if oOut (va_up R 39 c) m (va_up R 39 c r) = false then 0 else 1) = gr1 R m r + (if oOut R m (R r) = false then 0 else 1)
    rw [ih (by omega), oOut_39, va_up_ne R c (show r ≠ 39 by omega)]
theorem gr2_39 (R : Nat → Cap) (m : Nat) (w g : Nat → Int32) (c : Cap) : ∀ k, gr2 (va_up R 39 c) m w g k = gr2 R m w g k := by
  intro k
  induction k with
  | zero => exact gr1_39 R m c 37 (Nat.le_refl _)
  | succ k ih =>
    show (if gTag g (2 * k) = false then gr2 (va_up R 39 c) m w g k else gr2 (va_up R 39 c) m w g k + (if oOut (va_up R 39 c) m (true, w (2 * k), w (2 * k + 1) ^^^ 1000194) = false then 0 else 1)) = _
    rw [ih, oOut_39]
    rfl
set_option maxHeartbeats 4000000 in
set_option maxRecDepth 100000 in
theorem L_word_g {p9 : Program} {l : Launch} {e9 : Env} {s9 : State} {m9 : MethodId} {b9 : List Frame} {me9 : Method} {c9 : Code} {b L : Nat} {xs : Nat → Int32} {D : va_G} {ti : Nat → ClassId} {co mo ou i cells slots : Nat} {Q9 : State → Prop} {H : Heap} {locs : List Loc} {ls : Array Slot} {wc wr : va_W} {f : Nat → Int64} {σ : KS} {st : Int32} {m0 : Nat} {th : Int32}
    (S : CallFix p9 m9 c9 code 7 s9 #[Value.ref b] TB "CheriCoreLaw") (hX : va_X b L xs s9 s9.heap) (hbl : b < s9.heap.size) (hN : NW s9) (hZ : ZA s9) (hL : L ≤ 2560) (hi : i + 5 ≤ L) (hroom : cells + 1 ≤ 601024 ∧ slots + 6 ≤ 7293034) (hK : KI ti co σ st m0 wc) (hR : RI ti mo σ st m0 th wr) (hm : m0 ≤ 8) (hw : Lv D clz (ty4 ti) (AL s9) s9.heap ((ou, lo ti f) :: (wc ++ wr)) s9 H locs) (hl : lv_has ls 7 [(4, .int (nI i)), (3, .ref ou), (2, .ref mo), (1, .ref co), (0, .ref b)])
    (σ1 : KS) (st1 : Int32) (m1 : Nat) (hm1 : m1 ≤ 8) (v : Int32) (hM : CK l y_Cor_word (wl y_Cor_word b_Cor_word 4 (some .int)) (rmL 3) D ti [.ref co, .int (xs (i + 1)), .int (xs (i + 2))] wc (KI ti co σ1 st1 m1) (some (.int v))) (hQ : CK l y_Mod_word (wl y_Mod_word b_Mod_word 4 (some .int)) (rmL 1) D ti [.ref mo, .int (xs (i + 1)), .int (xs (i + 2))] wr (RI ti mo σ1 st1 m1 0) (some (.int v))) (J : LJ p9 l e9 s9 m9 b9 me9 c9 b D ti co mo ou i (cells + 1) (slots + 6) Q9 811) : W p9 l e9 room_1 s9 m9 #[Value.ref b] b9 me9 c9 H locs cells slots Q9 (F0 m9 100 ls []) := by
  obtain ⟨hx, hb, hml, hown, hts⟩ := id S
  refine W.widen (k := cells + 1) (n := slots + 6) (by omega) (by omega) ?_
  refine lv_aload_n hx hb d_Law_law_100 rfl (lv_at hl 3 rfl) ?_
  refine lv_aload_n hx hb d_Law_law_101 rfl (lv_at hl 4 rfl) ?_
  refine lv_iload hx hb d_Law_law_102 (lv_at hl 0 rfl) ?_
  refine lv_iconst (v := 1) hx hb d_Law_law_104 (by decide) ?_
  refine lv_iadd hx hb d_Law_law_105 ?_
  refine q_topi (z := nI (i + 1)) (nI_add i 1) ?_
  refine law_sld (k := i + 1) S hX hbl hw (by omega) (by omega) d_Law_law_106 ?_
  refine lv_aload_n hx hb d_Law_law_107 rfl (lv_at hl 4 rfl) ?_
  refine lv_iload hx hb d_Law_law_108 (lv_at hl 0 rfl) ?_
  refine lv_iconst (v := 2) hx hb d_Law_law_110 (by decide) ?_
  refine lv_iadd hx hb d_Law_law_111 ?_
  refine q_topi (z := nI (i + 2)) (nI_add i 2) ?_
  refine law_sld (k := i + 2) S hX hbl hw (by omega) (by omega) d_Law_law_112 ?_
  refine lv_aload_n hx hb d_Law_law_113 rfl (lv_at hl 1 rfl) ?_
  refine q_cg (q_runSW (As := [.ref co, .int (xs (i + 1)), .int (xs (i + 2)), .ref ou]) (rest := []) S (Cg.front (g_Law_word l D ti co ou f wc _ _ _ v (hK).co hM) (fun z => congrArg (· + 1) z.len) wr) k_Law_word tb_2_186 rfl rfl ⟨by decide, by decide⟩ ⟨Pr.blind, hw.pre⟩ rfl hl.1 rfl (Nat.le_of_ble_eq_true rfl) d_Law_law_114 hroom) hw (fun z hD => z.consf hD) (fun zK H locs _ hw => ?_)
  have hK1 := zK.2.1
  refine W.eq (g2 := F0 m9 117 ls [.int (0 : Int32)]) rfl ?_
  have hw : Lv _ _ _ _ _ ((ou, lo ti (vp_updL f 0 v.toInt64)) :: (zK.1 ++ wr)) _ _ _ := hw
  refine lv_istore (lv' := [(5, .int (0 : Int32)), (4, .int (nI i)), (3, .ref ou), (2, .ref mo), (1, .ref co), (0, .ref b)]) hx hb d_Law_law_117 hl (by decide) rfl (fun ls hl => ?_)
  refine lv_aload_n hx hb d_Law_law_119 rfl (lv_at hl 3 rfl) ?_
  refine lv_aload_n hx hb d_Law_law_120 rfl (lv_at hl 5 rfl) ?_
  refine lv_iload hx hb d_Law_law_121 (lv_at hl 1 rfl) ?_
  refine lv_iconst (v := 1) hx hb d_Law_law_123 (by decide) ?_
  refine lv_iadd hx hb d_Law_law_124 ?_
  refine q_topi (z := nI (i + 1)) (nI_add i 1) ?_
  refine law_sld (k := i + 1) S hX hbl hw (by omega) (by omega) d_Law_law_125 ?_
  refine lv_aload_n hx hb d_Law_law_126 rfl (lv_at hl 5 rfl) ?_
  refine lv_iload hx hb d_Law_law_127 (lv_at hl 1 rfl) ?_
  refine lv_iconst (v := 2) hx hb d_Law_law_129 (by decide) ?_
  refine lv_iadd hx hb d_Law_law_130 ?_
  refine q_topi (z := nI (i + 2)) (nI_add i 2) ?_
  refine law_sld (k := i + 2) S hX hbl hw (by omega) (by omega) d_Law_law_131 ?_
  obtain ⟨fr2, hmo2⟩ := (hR).mo
  refine q_cg (q_runV (As := [.int (xs (i + 1)), .int (xs (i + 2))]) (rest := []) S (Cg.back hQ (fun z => z.len) ((ou, lo ti (vp_updL f 0 v.toInt64)) :: zK.1)) (cw_v hts tb_5_106 k_Mod_word rfl rfl ⟨by decide, by decide⟩) hw ((zK.1).length + 1) (at_mo hmo2) rfl rfl hl.1 rfl (Nat.le_of_ble_eq_true rfl) d_Law_law_132 hroom) hw (fun z hD => z.backf hD) (fun zR2 H locs _ hw => ?_)
  have hR2 := zR2.2.1
  refine W.eq (g2 := F0 m9 135 ls [.int v]) rfl ?_
  have hw : Lv _ _ _ _ _ ((ou, lo ti (vp_updL f 0 v.toInt64)) :: (zK.1 ++ zR2.1)) _ _ _ := hw
  refine lv_istore (lv' := [(6, .int v), (5, .int (0 : Int32)), (4, .int (nI i)), (3, .ref ou), (2, .ref mo), (1, .ref co), (0, .ref b)]) hx hb d_Law_law_135 hl (by decide) rfl (fun ls hl => ?_)
  refine lv_aload_n hx hb d_Law_law_137 rfl (lv_at hl 4 rfl) ?_
  obtain ⟨fr3, hmo3⟩ := (hR2).mo
  refine q_cg (q_runV (As := []) (rest := []) S (Cg.back (rk_thrown l D hR2) (fun z => z.len) ((ou, lo ti (vp_updL f 0 v.toInt64)) :: zK.1)) (cw_v hts tb_5_102 k_Mod_thrown rfl rfl ⟨by decide, by decide⟩) hw ((zK.1).length + 1) (at_mo hmo3) rfl rfl hl.1 rfl (Nat.le_of_ble_eq_true rfl) d_Law_law_138 hroom) hw (fun z hD => z.backf hD) (fun zR3 H locs _ hw => ?_)
  have hR3 := zR3.2.1
  refine W.eq (g2 := F0 m9 141 ls [.int (0 : Int32)]) rfl ?_
  have hw : Lv _ _ _ _ _ ((ou, lo ti (vp_updL f 0 v.toInt64)) :: (zK.1 ++ zR3.1)) _ _ _ := hw
  refine lv_iload hx hb d_Law_law_141 (lv_at hl 1 rfl) ?_
  refine lv_icmp_eq hx hb d_Law_law_143 rfl (fun _ => ?_) (fun h => absurd h (by decide))
  refine lv_iload hx hb d_Law_law_148 (lv_at hl 1 rfl) ?_
  refine lv_if_ne hx hb d_Law_law_150 rfl (fun h => absurd h (by decide)) (fun _ => ?_)
  refine lv_aload_n hx hb d_Law_law_153 rfl (lv_at hl 3 rfl) ?_
  refine lv_iconst (v := 0) hx hb d_Law_law_154 (by decide) ?_
  refine q_laldN (k := 0) S hw 0 2 rfl rfl (by decide) (by decide) d_Law_law_155 ?_
  refine q_topl (z := v.toInt64) (upd_0 _ _) ?_
  refine lv_iload hx hb d_Law_law_156 (lv_at hl 0 rfl) ?_
  refine lv_i2l (v := (v.toInt64)) hx hb d_Law_law_158 rfl ?_
  refine q_lc_eq S d_Law_law_159 d_Law_law_160 rfl (fun _ => ?_) (fun h => absurd (rfl) h)
  refine lv_goto hx hb d_Law_law_165 rfl ?_
  exact J _ _ _ _ _ _ _ _ _ _ hK1 hR3 hm1 hw (lv_sub (l' := [(4, .int (nI i)), (3, .ref ou), (2, .ref mo), (1, .ref co), (0, .ref b)]) hl [2, 3, 4, 5, 6] rfl)
set_option maxHeartbeats 4000000 in
set_option maxRecDepth 100000 in
theorem L_word_x {p9 : Program} {l : Launch} {e9 : Env} {s9 : State} {m9 : MethodId} {b9 : List Frame} {me9 : Method} {c9 : Code} {b L : Nat} {xs : Nat → Int32} {D : va_G} {ti : Nat → ClassId} {co mo ou i cells slots : Nat} {Q9 : State → Prop} {H : Heap} {locs : List Loc} {ls : Array Slot} {wc wr : va_W} {f : Nat → Int64} {σ : KS} {st : Int32} {m0 : Nat} {th : Int32}
    (S : CallFix p9 m9 c9 code 7 s9 #[Value.ref b] TB "CheriCoreLaw") (hX : va_X b L xs s9 s9.heap) (hbl : b < s9.heap.size) (hN : NW s9) (hZ : ZA s9) (hL : L ≤ 2560) (hi : i + 5 ≤ L) (hroom : cells + 1 ≤ 601024 ∧ slots + 6 ≤ 7293034) (hK : KI ti co σ st m0 wc) (hR : RI ti mo σ st m0 th wr) (hm : m0 ≤ 8) (hw : Lv D clz (ty4 ti) (AL s9) s9.heap ((ou, lo ti f) :: (wc ++ wr)) s9 H locs) (hl : lv_has ls 7 [(4, .int (nI i)), (3, .ref ou), (2, .ref mo), (1, .ref co), (0, .ref b)])
    (hM : CT1 l y_Cor_word (wl y_Cor_word b_Cor_word 4 (some .int)) D ti [.ref co, .int (xs (i + 1)), .int (xs (i + 2))] wc 58 X1 56 "no such word") (hQ : CK l y_Mod_word (wl y_Mod_word b_Mod_word 4 (some .int)) (rmL 1) D ti [.ref mo, .int (xs (i + 1)), .int (xs (i + 2))] wr (RI ti mo σ st m0 1) (some (.int 0))) (J : LJ p9 l e9 s9 m9 b9 me9 c9 b D ti co mo ou i (cells + 1) (slots + 6) Q9 811) : W p9 l e9 room_1 s9 m9 #[Value.ref b] b9 me9 c9 H locs cells slots Q9 (F0 m9 100 ls []) := by
  obtain ⟨hx, hb, hml, hown, hts⟩ := id S
  refine lv_aload_n hx hb d_Law_law_100 rfl (lv_at hl 3 rfl) ?_
  refine lv_aload_n hx hb d_Law_law_101 rfl (lv_at hl 4 rfl) ?_
  refine lv_iload hx hb d_Law_law_102 (lv_at hl 0 rfl) ?_
  refine lv_iconst (v := 1) hx hb d_Law_law_104 (by decide) ?_
  refine lv_iadd hx hb d_Law_law_105 ?_
  refine q_topi (z := nI (i + 1)) (nI_add i 1) ?_
  refine law_sld (k := i + 1) S hX hbl hw (by omega) (by omega) d_Law_law_106 ?_
  refine lv_aload_n hx hb d_Law_law_107 rfl (lv_at hl 4 rfl) ?_
  refine lv_iload hx hb d_Law_law_108 (lv_at hl 0 rfl) ?_
  refine lv_iconst (v := 2) hx hb d_Law_law_110 (by decide) ?_
  refine lv_iadd hx hb d_Law_law_111 ?_
  refine q_topi (z := nI (i + 2)) (nI_add i 2) ?_
  refine law_sld (k := i + 2) S hX hbl hw (by omega) (by omega) d_Law_law_112 ?_
  refine lv_aload_n hx hb d_Law_law_113 rfl (lv_at hl 1 rfl) ?_
  refine q_cx (q_runSW (As := [.ref co, .int (xs (i + 1)), .int (xs (i + 2)), .ref ou]) (rest := []) S (x_Law_word l D ti co ou f wc _ _ (hK).co hM) k_Law_word tb_2_186 rfl rfl ⟨by decide, by decide⟩ (Lv.preX (ws := (ou, lo ti f) :: wc) (Y := wr) hw hN (fun U hU hW => hZ.moved hW (fun q hq => by rw [hU]; exact hw.2.2.2.2.1 q hq (Nat.not_le.mpr hq)))) rfl hl.1 rfl (Nat.le_of_ble_eq_true rfl) d_Law_law_114 hroom) hw (fun H hw => ?_)
  refine W.eq (g2 := F0 m9 117 ls [.int (1 : Int32)]) rfl ?_
  have hw : Lv _ _ _ _ _ ((ou, lo ti f) :: (wc ++ wr)) _ _ _ := hw
  refine lv_istore (lv' := [(5, .int (1 : Int32)), (4, .int (nI i)), (3, .ref ou), (2, .ref mo), (1, .ref co), (0, .ref b)]) hx hb d_Law_law_117 hl (by decide) rfl (fun ls hl => ?_)
  refine lv_aload_n hx hb d_Law_law_119 rfl (lv_at hl 3 rfl) ?_
  refine lv_aload_n hx hb d_Law_law_120 rfl (lv_at hl 5 rfl) ?_
  refine lv_iload hx hb d_Law_law_121 (lv_at hl 1 rfl) ?_
  refine lv_iconst (v := 1) hx hb d_Law_law_123 (by decide) ?_
  refine lv_iadd hx hb d_Law_law_124 ?_
  refine q_topi (z := nI (i + 1)) (nI_add i 1) ?_
  refine law_sld (k := i + 1) S hX hbl hw (by omega) (by omega) d_Law_law_125 ?_
  refine lv_aload_n hx hb d_Law_law_126 rfl (lv_at hl 5 rfl) ?_
  refine lv_iload hx hb d_Law_law_127 (lv_at hl 1 rfl) ?_
  refine lv_iconst (v := 2) hx hb d_Law_law_129 (by decide) ?_
  refine lv_iadd hx hb d_Law_law_130 ?_
  refine q_topi (z := nI (i + 2)) (nI_add i 2) ?_
  refine law_sld (k := i + 2) S hX hbl hw (by omega) (by omega) d_Law_law_131 ?_
  obtain ⟨fr2, hmo2⟩ := (hR).mo
  refine q_cg (q_runV (As := [.int (xs (i + 1)), .int (xs (i + 2))]) (rest := []) S (Cg.back hQ (fun z => z.len) ((ou, lo ti f) :: wc)) (cw_v hts tb_5_106 k_Mod_word rfl rfl ⟨by decide, by decide⟩) hw ((wc).length + 1) (at_mo hmo2) rfl rfl hl.1 rfl (Nat.le_of_ble_eq_true rfl) d_Law_law_132 hroom) hw (fun z hD => z.backf hD) (fun zR2 H locs _ hw => ?_)
  have hR2 := zR2.2.1
  refine W.eq (g2 := F0 m9 135 ls [.int (0 : Int32)]) rfl ?_
  have hw : Lv _ _ _ _ _ ((ou, lo ti f) :: (wc ++ zR2.1)) _ _ _ := hw
  refine lv_istore (lv' := [(6, .int (0 : Int32)), (5, .int (1 : Int32)), (4, .int (nI i)), (3, .ref ou), (2, .ref mo), (1, .ref co), (0, .ref b)]) hx hb d_Law_law_135 hl (by decide) rfl (fun ls hl => ?_)
  refine lv_aload_n hx hb d_Law_law_137 rfl (lv_at hl 4 rfl) ?_
  obtain ⟨fr3, hmo3⟩ := (hR2).mo
  refine q_cg (q_runV (As := []) (rest := []) S (Cg.back (rk_thrown l D hR2) (fun z => z.len) ((ou, lo ti f) :: wc)) (cw_v hts tb_5_102 k_Mod_thrown rfl rfl ⟨by decide, by decide⟩) hw ((wc).length + 1) (at_mo hmo3) rfl rfl hl.1 rfl (Nat.le_of_ble_eq_true rfl) d_Law_law_138 hroom) hw (fun z hD => z.backf hD) (fun zR3 H locs _ hw => ?_)
  have hR3 := zR3.2.1
  refine W.eq (g2 := F0 m9 141 ls [.int (1 : Int32)]) rfl ?_
  have hw : Lv _ _ _ _ _ ((ou, lo ti f) :: (wc ++ zR3.1)) _ _ _ := hw
  refine lv_iload hx hb d_Law_law_141 (lv_at hl 1 rfl) ?_
  refine lv_icmp_eq hx hb d_Law_law_143 rfl (fun _ => ?_) (fun h => absurd h (by decide))
  refine lv_iload hx hb d_Law_law_148 (lv_at hl 1 rfl) ?_
  refine lv_if_ne hx hb d_Law_law_150 rfl (fun _ => ?_) (fun h => absurd h (by decide))
  refine lv_goto hx hb d_Law_law_165 rfl ?_
  exact J _ _ _ _ _ _ _ _ _ _ hK hR3 hm hw (lv_sub (l' := [(4, .int (nI i)), (3, .ref ou), (2, .ref mo), (1, .ref co), (0, .ref b)]) hl [2, 3, 4, 5, 6] rfl)
set_option maxHeartbeats 4000000 in
set_option maxRecDepth 100000 in
theorem L_root_g {p9 : Program} {l : Launch} {e9 : Env} {s9 : State} {m9 : MethodId} {b9 : List Frame} {me9 : Method} {c9 : Code} {b L : Nat} {xs : Nat → Int32} {D : va_G} {ti : Nat → ClassId} {co mo ou i cells slots : Nat} {Q9 : State → Prop} {H : Heap} {locs : List Loc} {ls : Array Slot} {wc wr : va_W} {f : Nat → Int64} {σ : KS} {st : Int32} {m0 : Nat} {th : Int32}
    (S : CallFix p9 m9 c9 code 7 s9 #[Value.ref b] TB "CheriCoreLaw") (hX : va_X b L xs s9 s9.heap) (hbl : b < s9.heap.size) (hN : NW s9) (hZ : ZA s9) (hL : L ≤ 2560) (hi : i + 5 ≤ L) (hroom : cells + 1 ≤ 601024 ∧ slots + 6 ≤ 7293034) (hK : KI ti co σ st m0 wc) (hR : RI ti mo σ st m0 th wr) (hm : m0 ≤ 8) (hw : Lv D clz (ty4 ti) (AL s9) s9.heap ((ou, lo ti f) :: (wc ++ wr)) s9 H locs) (hl : lv_has ls 7 [(4, .int (nI i)), (3, .ref ou), (2, .ref mo), (1, .ref co), (0, .ref b)])
    (σ1 : KS) (st1 : Int32) (m1 : Nat) (hm1 : m1 ≤ 8) (v : Int32) (hM : CK l y_Cor_root (wl y_Cor_root b_Cor_root 8 (some .int)) (rmL 3) D ti [.ref co, .int (xs (i + 1)), .int (xs (i + 2)), .int (xs (i + 3)), .int (xs (i + 4))] wc (KI ti co σ1 st1 m1) (some (.int v))) (hQ : CK l y_Mod_root (wl y_Mod_root b_Mod_root 5 (some .int)) (rmL 4) D ti [.ref mo, .int (xs (i + 1)), .int (xs (i + 2)), .int (xs (i + 3)), .int (xs (i + 4))] wr (RI ti mo σ1 st1 m1 0) (some (.int v))) (J : LJ p9 l e9 s9 m9 b9 me9 c9 b D ti co mo ou i (cells + 1) (slots + 6) Q9 811) : W p9 l e9 room_1 s9 m9 #[Value.ref b] b9 me9 c9 H locs cells slots Q9 (F0 m9 168 ls []) := by
  obtain ⟨hx, hb, hml, hown, hts⟩ := id S
  refine W.widen (k := cells + 1) (n := slots + 6) (by omega) (by omega) ?_
  refine lv_aload_n hx hb d_Law_law_168 rfl (lv_at hl 3 rfl) ?_
  refine lv_aload_n hx hb d_Law_law_169 rfl (lv_at hl 4 rfl) ?_
  refine lv_iload hx hb d_Law_law_170 (lv_at hl 0 rfl) ?_
  refine lv_iconst (v := 1) hx hb d_Law_law_172 (by decide) ?_
  refine lv_iadd hx hb d_Law_law_173 ?_
  refine q_topi (z := nI (i + 1)) (nI_add i 1) ?_
  refine law_sld (k := i + 1) S hX hbl hw (by omega) (by omega) d_Law_law_174 ?_
  refine lv_aload_n hx hb d_Law_law_175 rfl (lv_at hl 4 rfl) ?_
  refine lv_iload hx hb d_Law_law_176 (lv_at hl 0 rfl) ?_
  refine lv_iconst (v := 2) hx hb d_Law_law_178 (by decide) ?_
  refine lv_iadd hx hb d_Law_law_179 ?_
  refine q_topi (z := nI (i + 2)) (nI_add i 2) ?_
  refine law_sld (k := i + 2) S hX hbl hw (by omega) (by omega) d_Law_law_180 ?_
  refine lv_aload_n hx hb d_Law_law_181 rfl (lv_at hl 4 rfl) ?_
  refine lv_iload hx hb d_Law_law_182 (lv_at hl 0 rfl) ?_
  refine lv_iconst (v := 3) hx hb d_Law_law_184 (by decide) ?_
  refine lv_iadd hx hb d_Law_law_185 ?_
  refine q_topi (z := nI (i + 3)) (nI_add i 3) ?_
  refine law_sld (k := i + 3) S hX hbl hw (by omega) (by omega) d_Law_law_186 ?_
  refine lv_aload_n hx hb d_Law_law_187 rfl (lv_at hl 4 rfl) ?_
  refine lv_iload hx hb d_Law_law_188 (lv_at hl 0 rfl) ?_
  refine lv_iconst (v := 4) hx hb d_Law_law_190 (by decide) ?_
  refine lv_iadd hx hb d_Law_law_191 ?_
  refine q_topi (z := nI (i + 4)) (nI_add i 4) ?_
  refine law_sld (k := i + 4) S hX hbl hw (by omega) (by omega) d_Law_law_192 ?_
  refine lv_aload_n hx hb d_Law_law_193 rfl (lv_at hl 1 rfl) ?_
  refine q_cg (q_runSW (As := [.ref co, .int (xs (i + 1)), .int (xs (i + 2)), .int (xs (i + 3)), .int (xs (i + 4)), .ref ou]) (rest := []) S (Cg.front (g_Law_root l D ti co ou f wc _ _ _ _ _ v (hK).co hM) (fun z => congrArg (· + 1) z.len) wr) k_Law_root tb_3_64 rfl rfl ⟨by decide, by decide⟩ ⟨Pr.blind, hw.pre⟩ rfl hl.1 rfl (Nat.le_of_ble_eq_true rfl) d_Law_law_194 hroom) hw (fun z hD => z.consf hD) (fun zK H locs _ hw => ?_)
  have hK1 := zK.2.1
  refine W.eq (g2 := F0 m9 197 ls [.int (0 : Int32)]) rfl ?_
  have hw : Lv _ _ _ _ _ ((ou, lo ti (vp_updL f 0 v.toInt64)) :: (zK.1 ++ wr)) _ _ _ := hw
  refine lv_istore (lv' := [(5, .int (0 : Int32)), (4, .int (nI i)), (3, .ref ou), (2, .ref mo), (1, .ref co), (0, .ref b)]) hx hb d_Law_law_197 hl (by decide) rfl (fun ls hl => ?_)
  refine lv_aload_n hx hb d_Law_law_199 rfl (lv_at hl 3 rfl) ?_
  refine lv_aload_n hx hb d_Law_law_200 rfl (lv_at hl 5 rfl) ?_
  refine lv_iload hx hb d_Law_law_201 (lv_at hl 1 rfl) ?_
  refine lv_iconst (v := 1) hx hb d_Law_law_203 (by decide) ?_
  refine lv_iadd hx hb d_Law_law_204 ?_
  refine q_topi (z := nI (i + 1)) (nI_add i 1) ?_
  refine law_sld (k := i + 1) S hX hbl hw (by omega) (by omega) d_Law_law_205 ?_
  refine lv_aload_n hx hb d_Law_law_206 rfl (lv_at hl 5 rfl) ?_
  refine lv_iload hx hb d_Law_law_207 (lv_at hl 1 rfl) ?_
  refine lv_iconst (v := 2) hx hb d_Law_law_209 (by decide) ?_
  refine lv_iadd hx hb d_Law_law_210 ?_
  refine q_topi (z := nI (i + 2)) (nI_add i 2) ?_
  refine law_sld (k := i + 2) S hX hbl hw (by omega) (by omega) d_Law_law_211 ?_
  refine lv_aload_n hx hb d_Law_law_212 rfl (lv_at hl 5 rfl) ?_
  refine lv_iload hx hb d_Law_law_213 (lv_at hl 1 rfl) ?_
  refine lv_iconst (v := 3) hx hb d_Law_law_215 (by decide) ?_
  refine lv_iadd hx hb d_Law_law_216 ?_
  refine q_topi (z := nI (i + 3)) (nI_add i 3) ?_
  refine law_sld (k := i + 3) S hX hbl hw (by omega) (by omega) d_Law_law_217 ?_
  refine lv_aload_n hx hb d_Law_law_218 rfl (lv_at hl 5 rfl) ?_
  refine lv_iload hx hb d_Law_law_219 (lv_at hl 1 rfl) ?_
  refine lv_iconst (v := 4) hx hb d_Law_law_221 (by decide) ?_
  refine lv_iadd hx hb d_Law_law_222 ?_
  refine q_topi (z := nI (i + 4)) (nI_add i 4) ?_
  refine law_sld (k := i + 4) S hX hbl hw (by omega) (by omega) d_Law_law_223 ?_
  obtain ⟨fr2, hmo2⟩ := (hR).mo
  refine q_cg (q_runV (As := [.int (xs (i + 1)), .int (xs (i + 2)), .int (xs (i + 3)), .int (xs (i + 4))]) (rest := []) S (Cg.back hQ (fun z => z.len) ((ou, lo ti (vp_updL f 0 v.toInt64)) :: zK.1)) (cw_v hts tb_5_114 k_Mod_root rfl rfl ⟨by decide, by decide⟩) hw ((zK.1).length + 1) (at_mo hmo2) rfl rfl hl.1 rfl (Nat.le_of_ble_eq_true rfl) d_Law_law_224 hroom) hw (fun z hD => z.backf hD) (fun zR2 H locs _ hw => ?_)
  have hR2 := zR2.2.1
  refine W.eq (g2 := F0 m9 227 ls [.int v]) rfl ?_
  have hw : Lv _ _ _ _ _ ((ou, lo ti (vp_updL f 0 v.toInt64)) :: (zK.1 ++ zR2.1)) _ _ _ := hw
  refine lv_istore (lv' := [(6, .int v), (5, .int (0 : Int32)), (4, .int (nI i)), (3, .ref ou), (2, .ref mo), (1, .ref co), (0, .ref b)]) hx hb d_Law_law_227 hl (by decide) rfl (fun ls hl => ?_)
  refine lv_aload_n hx hb d_Law_law_229 rfl (lv_at hl 4 rfl) ?_
  obtain ⟨fr3, hmo3⟩ := (hR2).mo
  refine q_cg (q_runV (As := []) (rest := []) S (Cg.back (rk_thrown l D hR2) (fun z => z.len) ((ou, lo ti (vp_updL f 0 v.toInt64)) :: zK.1)) (cw_v hts tb_5_102 k_Mod_thrown rfl rfl ⟨by decide, by decide⟩) hw ((zK.1).length + 1) (at_mo hmo3) rfl rfl hl.1 rfl (Nat.le_of_ble_eq_true rfl) d_Law_law_230 hroom) hw (fun z hD => z.backf hD) (fun zR3 H locs _ hw => ?_)
  have hR3 := zR3.2.1
  refine W.eq (g2 := F0 m9 233 ls [.int (0 : Int32)]) rfl ?_
  have hw : Lv _ _ _ _ _ ((ou, lo ti (vp_updL f 0 v.toInt64)) :: (zK.1 ++ zR3.1)) _ _ _ := hw
  refine lv_iload hx hb d_Law_law_233 (lv_at hl 1 rfl) ?_
  refine lv_icmp_eq hx hb d_Law_law_235 rfl (fun _ => ?_) (fun h => absurd h (by decide))
  refine lv_iload hx hb d_Law_law_240 (lv_at hl 1 rfl) ?_
  refine lv_if_ne hx hb d_Law_law_242 rfl (fun h => absurd h (by decide)) (fun _ => ?_)
  refine lv_aload_n hx hb d_Law_law_245 rfl (lv_at hl 3 rfl) ?_
  refine lv_iconst (v := 0) hx hb d_Law_law_246 (by decide) ?_
  refine q_laldN (k := 0) S hw 0 2 rfl rfl (by decide) (by decide) d_Law_law_247 ?_
  refine q_topl (z := v.toInt64) (upd_0 _ _) ?_
  refine lv_iload hx hb d_Law_law_248 (lv_at hl 0 rfl) ?_
  refine lv_i2l (v := (v.toInt64)) hx hb d_Law_law_250 rfl ?_
  refine q_lc_eq S d_Law_law_251 d_Law_law_252 rfl (fun _ => ?_) (fun h => absurd (rfl) h)
  refine lv_goto hx hb d_Law_law_257 rfl ?_
  exact J _ _ _ _ _ _ _ _ _ _ hK1 hR3 hm1 hw (lv_sub (l' := [(4, .int (nI i)), (3, .ref ou), (2, .ref mo), (1, .ref co), (0, .ref b)]) hl [2, 3, 4, 5, 6] rfl)
set_option maxHeartbeats 4000000 in
set_option maxRecDepth 100000 in
theorem L_root_xX {p9 : Program} {l : Launch} {e9 : Env} {s9 : State} {m9 : MethodId} {b9 : List Frame} {me9 : Method} {c9 : Code} {b L : Nat} {xs : Nat → Int32} {D : va_G} {ti : Nat → ClassId} {co mo ou i cells slots : Nat} {Q9 : State → Prop} {H : Heap} {locs : List Loc} {ls : Array Slot} {wc wr : va_W} {f : Nat → Int64} {σ : KS} {st : Int32} {m0 : Nat} {th : Int32}
    (S : CallFix p9 m9 c9 code 7 s9 #[Value.ref b] TB "CheriCoreLaw") (hX : va_X b L xs s9 s9.heap) (hbl : b < s9.heap.size) (hN : NW s9) (hZ : ZA s9) (hL : L ≤ 2560) (hi : i + 5 ≤ L) (hroom : cells + 1 ≤ 601024 ∧ slots + 6 ≤ 7293034) (hK : KI ti co σ st m0 wc) (hR : RI ti mo σ st m0 th wr) (hm : m0 ≤ 8) (hw : Lv D clz (ty4 ti) (AL s9) s9.heap ((ou, lo ti f) :: (wc ++ wr)) s9 H locs) (hl : lv_has ls 7 [(4, .int (nI i)), (3, .ref ou), (2, .ref mo), (1, .ref co), (0, .ref b)])
    (hM : CT1 l y_Cor_root (wl y_Cor_root b_Cor_root 8 (some .int)) D ti [.ref co, .int (xs (i + 1)), .int (xs (i + 2)), .int (xs (i + 3)), .int (xs (i + 4))] wc 58 X1 85 "no such register") (hQ : CK l y_Mod_root (wl y_Mod_root b_Mod_root 5 (some .int)) (rmL 4) D ti [.ref mo, .int (xs (i + 1)), .int (xs (i + 2)), .int (xs (i + 3)), .int (xs (i + 4))] wr (RI ti mo σ st m0 1) (some (.int 0))) (J : LJ p9 l e9 s9 m9 b9 me9 c9 b D ti co mo ou i (cells + 1) (slots + 6) Q9 811) : W p9 l e9 room_1 s9 m9 #[Value.ref b] b9 me9 c9 H locs cells slots Q9 (F0 m9 168 ls []) := by
  obtain ⟨hx, hb, hml, hown, hts⟩ := id S
  refine lv_aload_n hx hb d_Law_law_168 rfl (lv_at hl 3 rfl) ?_
  refine lv_aload_n hx hb d_Law_law_169 rfl (lv_at hl 4 rfl) ?_
  refine lv_iload hx hb d_Law_law_170 (lv_at hl 0 rfl) ?_
  refine lv_iconst (v := 1) hx hb d_Law_law_172 (by decide) ?_
  refine lv_iadd hx hb d_Law_law_173 ?_
  refine q_topi (z := nI (i + 1)) (nI_add i 1) ?_
  refine law_sld (k := i + 1) S hX hbl hw (by omega) (by omega) d_Law_law_174 ?_
  refine lv_aload_n hx hb d_Law_law_175 rfl (lv_at hl 4 rfl) ?_
  refine lv_iload hx hb d_Law_law_176 (lv_at hl 0 rfl) ?_
  refine lv_iconst (v := 2) hx hb d_Law_law_178 (by decide) ?_
  refine lv_iadd hx hb d_Law_law_179 ?_
  refine q_topi (z := nI (i + 2)) (nI_add i 2) ?_
  refine law_sld (k := i + 2) S hX hbl hw (by omega) (by omega) d_Law_law_180 ?_
  refine lv_aload_n hx hb d_Law_law_181 rfl (lv_at hl 4 rfl) ?_
  refine lv_iload hx hb d_Law_law_182 (lv_at hl 0 rfl) ?_
  refine lv_iconst (v := 3) hx hb d_Law_law_184 (by decide) ?_
  refine lv_iadd hx hb d_Law_law_185 ?_
  refine q_topi (z := nI (i + 3)) (nI_add i 3) ?_
  refine law_sld (k := i + 3) S hX hbl hw (by omega) (by omega) d_Law_law_186 ?_
  refine lv_aload_n hx hb d_Law_law_187 rfl (lv_at hl 4 rfl) ?_
  refine lv_iload hx hb d_Law_law_188 (lv_at hl 0 rfl) ?_
  refine lv_iconst (v := 4) hx hb d_Law_law_190 (by decide) ?_
  refine lv_iadd hx hb d_Law_law_191 ?_
  refine q_topi (z := nI (i + 4)) (nI_add i 4) ?_
  refine law_sld (k := i + 4) S hX hbl hw (by omega) (by omega) d_Law_law_192 ?_
  refine lv_aload_n hx hb d_Law_law_193 rfl (lv_at hl 1 rfl) ?_
  refine q_cx (q_runSW (As := [.ref co, .int (xs (i + 1)), .int (xs (i + 2)), .int (xs (i + 3)), .int (xs (i + 4)), .ref ou]) (rest := []) S (x_Law_rootX l D ti co ou f wc _ _ _ _ (hK).co hM) k_Law_root tb_3_64 rfl rfl ⟨by decide, by decide⟩ (Lv.preX (ws := (ou, lo ti f) :: wc) (Y := wr) hw hN (fun U hU hW => hZ.moved hW (fun q hq => by rw [hU]; exact hw.2.2.2.2.1 q hq (Nat.not_le.mpr hq)))) rfl hl.1 rfl (Nat.le_of_ble_eq_true rfl) d_Law_law_194 hroom) hw (fun H hw => ?_)
  refine W.eq (g2 := F0 m9 197 ls [.int (1 : Int32)]) rfl ?_
  have hw : Lv _ _ _ _ _ ((ou, lo ti f) :: (wc ++ wr)) _ _ _ := hw
  refine lv_istore (lv' := [(5, .int (1 : Int32)), (4, .int (nI i)), (3, .ref ou), (2, .ref mo), (1, .ref co), (0, .ref b)]) hx hb d_Law_law_197 hl (by decide) rfl (fun ls hl => ?_)
  refine lv_aload_n hx hb d_Law_law_199 rfl (lv_at hl 3 rfl) ?_
  refine lv_aload_n hx hb d_Law_law_200 rfl (lv_at hl 5 rfl) ?_
  refine lv_iload hx hb d_Law_law_201 (lv_at hl 1 rfl) ?_
  refine lv_iconst (v := 1) hx hb d_Law_law_203 (by decide) ?_
  refine lv_iadd hx hb d_Law_law_204 ?_
  refine q_topi (z := nI (i + 1)) (nI_add i 1) ?_
  refine law_sld (k := i + 1) S hX hbl hw (by omega) (by omega) d_Law_law_205 ?_
  refine lv_aload_n hx hb d_Law_law_206 rfl (lv_at hl 5 rfl) ?_
  refine lv_iload hx hb d_Law_law_207 (lv_at hl 1 rfl) ?_
  refine lv_iconst (v := 2) hx hb d_Law_law_209 (by decide) ?_
  refine lv_iadd hx hb d_Law_law_210 ?_
  refine q_topi (z := nI (i + 2)) (nI_add i 2) ?_
  refine law_sld (k := i + 2) S hX hbl hw (by omega) (by omega) d_Law_law_211 ?_
  refine lv_aload_n hx hb d_Law_law_212 rfl (lv_at hl 5 rfl) ?_
  refine lv_iload hx hb d_Law_law_213 (lv_at hl 1 rfl) ?_
  refine lv_iconst (v := 3) hx hb d_Law_law_215 (by decide) ?_
  refine lv_iadd hx hb d_Law_law_216 ?_
  refine q_topi (z := nI (i + 3)) (nI_add i 3) ?_
  refine law_sld (k := i + 3) S hX hbl hw (by omega) (by omega) d_Law_law_217 ?_
  refine lv_aload_n hx hb d_Law_law_218 rfl (lv_at hl 5 rfl) ?_
  refine lv_iload hx hb d_Law_law_219 (lv_at hl 1 rfl) ?_
  refine lv_iconst (v := 4) hx hb d_Law_law_221 (by decide) ?_
  refine lv_iadd hx hb d_Law_law_222 ?_
  refine q_topi (z := nI (i + 4)) (nI_add i 4) ?_
  refine law_sld (k := i + 4) S hX hbl hw (by omega) (by omega) d_Law_law_223 ?_
  obtain ⟨fr2, hmo2⟩ := (hR).mo
  refine q_cg (q_runV (As := [.int (xs (i + 1)), .int (xs (i + 2)), .int (xs (i + 3)), .int (xs (i + 4))]) (rest := []) S (Cg.back hQ (fun z => z.len) ((ou, lo ti f) :: wc)) (cw_v hts tb_5_114 k_Mod_root rfl rfl ⟨by decide, by decide⟩) hw ((wc).length + 1) (at_mo hmo2) rfl rfl hl.1 rfl (Nat.le_of_ble_eq_true rfl) d_Law_law_224 hroom) hw (fun z hD => z.backf hD) (fun zR2 H locs _ hw => ?_)
  have hR2 := zR2.2.1
  refine W.eq (g2 := F0 m9 227 ls [.int (0 : Int32)]) rfl ?_
  have hw : Lv _ _ _ _ _ ((ou, lo ti f) :: (wc ++ zR2.1)) _ _ _ := hw
  refine lv_istore (lv' := [(6, .int (0 : Int32)), (5, .int (1 : Int32)), (4, .int (nI i)), (3, .ref ou), (2, .ref mo), (1, .ref co), (0, .ref b)]) hx hb d_Law_law_227 hl (by decide) rfl (fun ls hl => ?_)
  refine lv_aload_n hx hb d_Law_law_229 rfl (lv_at hl 4 rfl) ?_
  obtain ⟨fr3, hmo3⟩ := (hR2).mo
  refine q_cg (q_runV (As := []) (rest := []) S (Cg.back (rk_thrown l D hR2) (fun z => z.len) ((ou, lo ti f) :: wc)) (cw_v hts tb_5_102 k_Mod_thrown rfl rfl ⟨by decide, by decide⟩) hw ((wc).length + 1) (at_mo hmo3) rfl rfl hl.1 rfl (Nat.le_of_ble_eq_true rfl) d_Law_law_230 hroom) hw (fun z hD => z.backf hD) (fun zR3 H locs _ hw => ?_)
  have hR3 := zR3.2.1
  refine W.eq (g2 := F0 m9 233 ls [.int (1 : Int32)]) rfl ?_
  have hw : Lv _ _ _ _ _ ((ou, lo ti f) :: (wc ++ zR3.1)) _ _ _ := hw
  refine lv_iload hx hb d_Law_law_233 (lv_at hl 1 rfl) ?_
  refine lv_icmp_eq hx hb d_Law_law_235 rfl (fun _ => ?_) (fun h => absurd h (by decide))
  refine lv_iload hx hb d_Law_law_240 (lv_at hl 1 rfl) ?_
  refine lv_if_ne hx hb d_Law_law_242 rfl (fun _ => ?_) (fun h => absurd h (by decide))
  refine lv_goto hx hb d_Law_law_257 rfl ?_
  exact J _ _ _ _ _ _ _ _ _ _ hK hR3 hm hw (lv_sub (l' := [(4, .int (nI i)), (3, .ref ou), (2, .ref mo), (1, .ref co), (0, .ref b)]) hl [2, 3, 4, 5, 6] rfl)
set_option maxHeartbeats 4000000 in
set_option maxRecDepth 100000 in
theorem L_root_xY {p9 : Program} {l : Launch} {e9 : Env} {s9 : State} {m9 : MethodId} {b9 : List Frame} {me9 : Method} {c9 : Code} {b L : Nat} {xs : Nat → Int32} {D : va_G} {ti : Nat → ClassId} {co mo ou i cells slots : Nat} {Q9 : State → Prop} {H : Heap} {locs : List Loc} {ls : Array Slot} {wc wr : va_W} {f : Nat → Int64} {σ : KS} {st : Int32} {m0 : Nat} {th : Int32}
    (S : CallFix p9 m9 c9 code 7 s9 #[Value.ref b] TB "CheriCoreLaw") (hX : va_X b L xs s9 s9.heap) (hbl : b < s9.heap.size) (hN : NW s9) (hZ : ZA s9) (hL : L ≤ 2560) (hi : i + 5 ≤ L) (hroom : cells + 1 ≤ 601024 ∧ slots + 6 ≤ 7293034) (hK : KI ti co σ st m0 wc) (hR : RI ti mo σ st m0 th wr) (hm : m0 ≤ 8) (hw : Lv D clz (ty4 ti) (AL s9) s9.heap ((ou, lo ti f) :: (wc ++ wr)) s9 H locs) (hl : lv_has ls 7 [(4, .int (nI i)), (3, .ref ou), (2, .ref mo), (1, .ref co), (0, .ref b)])
    (hM : CT1 l y_Cor_root (wl y_Cor_root b_Cor_root 8 (some .int)) D ti [.ref co, .int (xs (i + 1)), .int (xs (i + 2)), .int (xs (i + 3)), .int (xs (i + 4))] wc 95 X2 93 "no such root") (hQ : CK l y_Mod_root (wl y_Mod_root b_Mod_root 5 (some .int)) (rmL 4) D ti [.ref mo, .int (xs (i + 1)), .int (xs (i + 2)), .int (xs (i + 3)), .int (xs (i + 4))] wr (RI ti mo σ st m0 2) (some (.int 0))) (J : LJ p9 l e9 s9 m9 b9 me9 c9 b D ti co mo ou i (cells + 1) (slots + 6) Q9 811) : W p9 l e9 room_1 s9 m9 #[Value.ref b] b9 me9 c9 H locs cells slots Q9 (F0 m9 168 ls []) := by
  obtain ⟨hx, hb, hml, hown, hts⟩ := id S
  refine lv_aload_n hx hb d_Law_law_168 rfl (lv_at hl 3 rfl) ?_
  refine lv_aload_n hx hb d_Law_law_169 rfl (lv_at hl 4 rfl) ?_
  refine lv_iload hx hb d_Law_law_170 (lv_at hl 0 rfl) ?_
  refine lv_iconst (v := 1) hx hb d_Law_law_172 (by decide) ?_
  refine lv_iadd hx hb d_Law_law_173 ?_
  refine q_topi (z := nI (i + 1)) (nI_add i 1) ?_
  refine law_sld (k := i + 1) S hX hbl hw (by omega) (by omega) d_Law_law_174 ?_
  refine lv_aload_n hx hb d_Law_law_175 rfl (lv_at hl 4 rfl) ?_
  refine lv_iload hx hb d_Law_law_176 (lv_at hl 0 rfl) ?_
  refine lv_iconst (v := 2) hx hb d_Law_law_178 (by decide) ?_
  refine lv_iadd hx hb d_Law_law_179 ?_
  refine q_topi (z := nI (i + 2)) (nI_add i 2) ?_
  refine law_sld (k := i + 2) S hX hbl hw (by omega) (by omega) d_Law_law_180 ?_
  refine lv_aload_n hx hb d_Law_law_181 rfl (lv_at hl 4 rfl) ?_
  refine lv_iload hx hb d_Law_law_182 (lv_at hl 0 rfl) ?_
  refine lv_iconst (v := 3) hx hb d_Law_law_184 (by decide) ?_
  refine lv_iadd hx hb d_Law_law_185 ?_
  refine q_topi (z := nI (i + 3)) (nI_add i 3) ?_
  refine law_sld (k := i + 3) S hX hbl hw (by omega) (by omega) d_Law_law_186 ?_
  refine lv_aload_n hx hb d_Law_law_187 rfl (lv_at hl 4 rfl) ?_
  refine lv_iload hx hb d_Law_law_188 (lv_at hl 0 rfl) ?_
  refine lv_iconst (v := 4) hx hb d_Law_law_190 (by decide) ?_
  refine lv_iadd hx hb d_Law_law_191 ?_
  refine q_topi (z := nI (i + 4)) (nI_add i 4) ?_
  refine law_sld (k := i + 4) S hX hbl hw (by omega) (by omega) d_Law_law_192 ?_
  refine lv_aload_n hx hb d_Law_law_193 rfl (lv_at hl 1 rfl) ?_
  refine q_cx (q_runSW (As := [.ref co, .int (xs (i + 1)), .int (xs (i + 2)), .int (xs (i + 3)), .int (xs (i + 4)), .ref ou]) (rest := []) S (x_Law_rootY l D ti co ou f wc _ _ _ _ (hK).co hM) k_Law_root tb_3_64 rfl rfl ⟨by decide, by decide⟩ (Lv.preX (ws := (ou, lo ti f) :: wc) (Y := wr) hw hN (fun U hU hW => hZ.moved hW (fun q hq => by rw [hU]; exact hw.2.2.2.2.1 q hq (Nat.not_le.mpr hq)))) rfl hl.1 rfl (Nat.le_of_ble_eq_true rfl) d_Law_law_194 hroom) hw (fun H hw => ?_)
  refine W.eq (g2 := F0 m9 197 ls [.int (2 : Int32)]) rfl ?_
  have hw : Lv _ _ _ _ _ ((ou, lo ti f) :: (wc ++ wr)) _ _ _ := hw
  refine lv_istore (lv' := [(5, .int (2 : Int32)), (4, .int (nI i)), (3, .ref ou), (2, .ref mo), (1, .ref co), (0, .ref b)]) hx hb d_Law_law_197 hl (by decide) rfl (fun ls hl => ?_)
  refine lv_aload_n hx hb d_Law_law_199 rfl (lv_at hl 3 rfl) ?_
  refine lv_aload_n hx hb d_Law_law_200 rfl (lv_at hl 5 rfl) ?_
  refine lv_iload hx hb d_Law_law_201 (lv_at hl 1 rfl) ?_
  refine lv_iconst (v := 1) hx hb d_Law_law_203 (by decide) ?_
  refine lv_iadd hx hb d_Law_law_204 ?_
  refine q_topi (z := nI (i + 1)) (nI_add i 1) ?_
  refine law_sld (k := i + 1) S hX hbl hw (by omega) (by omega) d_Law_law_205 ?_
  refine lv_aload_n hx hb d_Law_law_206 rfl (lv_at hl 5 rfl) ?_
  refine lv_iload hx hb d_Law_law_207 (lv_at hl 1 rfl) ?_
  refine lv_iconst (v := 2) hx hb d_Law_law_209 (by decide) ?_
  refine lv_iadd hx hb d_Law_law_210 ?_
  refine q_topi (z := nI (i + 2)) (nI_add i 2) ?_
  refine law_sld (k := i + 2) S hX hbl hw (by omega) (by omega) d_Law_law_211 ?_
  refine lv_aload_n hx hb d_Law_law_212 rfl (lv_at hl 5 rfl) ?_
  refine lv_iload hx hb d_Law_law_213 (lv_at hl 1 rfl) ?_
  refine lv_iconst (v := 3) hx hb d_Law_law_215 (by decide) ?_
  refine lv_iadd hx hb d_Law_law_216 ?_
  refine q_topi (z := nI (i + 3)) (nI_add i 3) ?_
  refine law_sld (k := i + 3) S hX hbl hw (by omega) (by omega) d_Law_law_217 ?_
  refine lv_aload_n hx hb d_Law_law_218 rfl (lv_at hl 5 rfl) ?_
  refine lv_iload hx hb d_Law_law_219 (lv_at hl 1 rfl) ?_
  refine lv_iconst (v := 4) hx hb d_Law_law_221 (by decide) ?_
  refine lv_iadd hx hb d_Law_law_222 ?_
  refine q_topi (z := nI (i + 4)) (nI_add i 4) ?_
  refine law_sld (k := i + 4) S hX hbl hw (by omega) (by omega) d_Law_law_223 ?_
  obtain ⟨fr2, hmo2⟩ := (hR).mo
  refine q_cg (q_runV (As := [.int (xs (i + 1)), .int (xs (i + 2)), .int (xs (i + 3)), .int (xs (i + 4))]) (rest := []) S (Cg.back hQ (fun z => z.len) ((ou, lo ti f) :: wc)) (cw_v hts tb_5_114 k_Mod_root rfl rfl ⟨by decide, by decide⟩) hw ((wc).length + 1) (at_mo hmo2) rfl rfl hl.1 rfl (Nat.le_of_ble_eq_true rfl) d_Law_law_224 hroom) hw (fun z hD => z.backf hD) (fun zR2 H locs _ hw => ?_)
  have hR2 := zR2.2.1
  refine W.eq (g2 := F0 m9 227 ls [.int (0 : Int32)]) rfl ?_
  have hw : Lv _ _ _ _ _ ((ou, lo ti f) :: (wc ++ zR2.1)) _ _ _ := hw
  refine lv_istore (lv' := [(6, .int (0 : Int32)), (5, .int (2 : Int32)), (4, .int (nI i)), (3, .ref ou), (2, .ref mo), (1, .ref co), (0, .ref b)]) hx hb d_Law_law_227 hl (by decide) rfl (fun ls hl => ?_)
  refine lv_aload_n hx hb d_Law_law_229 rfl (lv_at hl 4 rfl) ?_
  obtain ⟨fr3, hmo3⟩ := (hR2).mo
  refine q_cg (q_runV (As := []) (rest := []) S (Cg.back (rk_thrown l D hR2) (fun z => z.len) ((ou, lo ti f) :: wc)) (cw_v hts tb_5_102 k_Mod_thrown rfl rfl ⟨by decide, by decide⟩) hw ((wc).length + 1) (at_mo hmo3) rfl rfl hl.1 rfl (Nat.le_of_ble_eq_true rfl) d_Law_law_230 hroom) hw (fun z hD => z.backf hD) (fun zR3 H locs _ hw => ?_)
  have hR3 := zR3.2.1
  refine W.eq (g2 := F0 m9 233 ls [.int (2 : Int32)]) rfl ?_
  have hw : Lv _ _ _ _ _ ((ou, lo ti f) :: (wc ++ zR3.1)) _ _ _ := hw
  refine lv_iload hx hb d_Law_law_233 (lv_at hl 1 rfl) ?_
  refine lv_icmp_eq hx hb d_Law_law_235 rfl (fun _ => ?_) (fun h => absurd h (by decide))
  refine lv_iload hx hb d_Law_law_240 (lv_at hl 1 rfl) ?_
  refine lv_if_ne hx hb d_Law_law_242 rfl (fun _ => ?_) (fun h => absurd h (by decide))
  refine lv_goto hx hb d_Law_law_257 rfl ?_
  exact J _ _ _ _ _ _ _ _ _ _ hK hR3 hm hw (lv_sub (l' := [(4, .int (nI i)), (3, .ref ou), (2, .ref mo), (1, .ref co), (0, .ref b)]) hl [2, 3, 4, 5, 6] rfl)
set_option maxHeartbeats 4000000 in
set_option maxRecDepth 100000 in
theorem L_root_xZ {p9 : Program} {l : Launch} {e9 : Env} {s9 : State} {m9 : MethodId} {b9 : List Frame} {me9 : Method} {c9 : Code} {b L : Nat} {xs : Nat → Int32} {D : va_G} {ti : Nat → ClassId} {co mo ou i cells slots : Nat} {Q9 : State → Prop} {H : Heap} {locs : List Loc} {ls : Array Slot} {wc wr : va_W} {f : Nat → Int64} {σ : KS} {st : Int32} {m0 : Nat} {th : Int32}
    (S : CallFix p9 m9 c9 code 7 s9 #[Value.ref b] TB "CheriCoreLaw") (hX : va_X b L xs s9 s9.heap) (hbl : b < s9.heap.size) (hN : NW s9) (hZ : ZA s9) (hL : L ≤ 2560) (hi : i + 5 ≤ L) (hroom : cells + 1 ≤ 601024 ∧ slots + 6 ≤ 7293034) (hK : KI ti co σ st m0 wc) (hR : RI ti mo σ st m0 th wr) (hm : m0 ≤ 8) (hw : Lv D clz (ty4 ti) (AL s9) s9.heap ((ou, lo ti f) :: (wc ++ wr)) s9 H locs) (hl : lv_has ls 7 [(4, .int (nI i)), (3, .ref ou), (2, .ref mo), (1, .ref co), (0, .ref b)])
    (hM : CT1 l y_Cor_root (wl y_Cor_root b_Cor_root 8 (some .int)) D ti [.ref co, .int (xs (i + 1)), .int (xs (i + 2)), .int (xs (i + 3)), .int (xs (i + 4))] wc 104 X3 102 "there are eight roots") (hQ : CK l y_Mod_root (wl y_Mod_root b_Mod_root 5 (some .int)) (rmL 4) D ti [.ref mo, .int (xs (i + 1)), .int (xs (i + 2)), .int (xs (i + 3)), .int (xs (i + 4))] wr (RI ti mo σ st m0 3) (some (.int 0))) (J : LJ p9 l e9 s9 m9 b9 me9 c9 b D ti co mo ou i (cells + 1) (slots + 6) Q9 811) : W p9 l e9 room_1 s9 m9 #[Value.ref b] b9 me9 c9 H locs cells slots Q9 (F0 m9 168 ls []) := by
  obtain ⟨hx, hb, hml, hown, hts⟩ := id S
  refine lv_aload_n hx hb d_Law_law_168 rfl (lv_at hl 3 rfl) ?_
  refine lv_aload_n hx hb d_Law_law_169 rfl (lv_at hl 4 rfl) ?_
  refine lv_iload hx hb d_Law_law_170 (lv_at hl 0 rfl) ?_
  refine lv_iconst (v := 1) hx hb d_Law_law_172 (by decide) ?_
  refine lv_iadd hx hb d_Law_law_173 ?_
  refine q_topi (z := nI (i + 1)) (nI_add i 1) ?_
  refine law_sld (k := i + 1) S hX hbl hw (by omega) (by omega) d_Law_law_174 ?_
  refine lv_aload_n hx hb d_Law_law_175 rfl (lv_at hl 4 rfl) ?_
  refine lv_iload hx hb d_Law_law_176 (lv_at hl 0 rfl) ?_
  refine lv_iconst (v := 2) hx hb d_Law_law_178 (by decide) ?_
  refine lv_iadd hx hb d_Law_law_179 ?_
  refine q_topi (z := nI (i + 2)) (nI_add i 2) ?_
  refine law_sld (k := i + 2) S hX hbl hw (by omega) (by omega) d_Law_law_180 ?_
  refine lv_aload_n hx hb d_Law_law_181 rfl (lv_at hl 4 rfl) ?_
  refine lv_iload hx hb d_Law_law_182 (lv_at hl 0 rfl) ?_
  refine lv_iconst (v := 3) hx hb d_Law_law_184 (by decide) ?_
  refine lv_iadd hx hb d_Law_law_185 ?_
  refine q_topi (z := nI (i + 3)) (nI_add i 3) ?_
  refine law_sld (k := i + 3) S hX hbl hw (by omega) (by omega) d_Law_law_186 ?_
  refine lv_aload_n hx hb d_Law_law_187 rfl (lv_at hl 4 rfl) ?_
  refine lv_iload hx hb d_Law_law_188 (lv_at hl 0 rfl) ?_
  refine lv_iconst (v := 4) hx hb d_Law_law_190 (by decide) ?_
  refine lv_iadd hx hb d_Law_law_191 ?_
  refine q_topi (z := nI (i + 4)) (nI_add i 4) ?_
  refine law_sld (k := i + 4) S hX hbl hw (by omega) (by omega) d_Law_law_192 ?_
  refine lv_aload_n hx hb d_Law_law_193 rfl (lv_at hl 1 rfl) ?_
  refine q_cx (q_runSW (As := [.ref co, .int (xs (i + 1)), .int (xs (i + 2)), .int (xs (i + 3)), .int (xs (i + 4)), .ref ou]) (rest := []) S (x_Law_rootZ l D ti co ou f wc _ _ _ _ (hK).co hM) k_Law_root tb_3_64 rfl rfl ⟨by decide, by decide⟩ (Lv.preX (ws := (ou, lo ti f) :: wc) (Y := wr) hw hN (fun U hU hW => hZ.moved hW (fun q hq => by rw [hU]; exact hw.2.2.2.2.1 q hq (Nat.not_le.mpr hq)))) rfl hl.1 rfl (Nat.le_of_ble_eq_true rfl) d_Law_law_194 hroom) hw (fun H hw => ?_)
  refine W.eq (g2 := F0 m9 197 ls [.int (3 : Int32)]) rfl ?_
  have hw : Lv _ _ _ _ _ ((ou, lo ti f) :: (wc ++ wr)) _ _ _ := hw
  refine lv_istore (lv' := [(5, .int (3 : Int32)), (4, .int (nI i)), (3, .ref ou), (2, .ref mo), (1, .ref co), (0, .ref b)]) hx hb d_Law_law_197 hl (by decide) rfl (fun ls hl => ?_)
  refine lv_aload_n hx hb d_Law_law_199 rfl (lv_at hl 3 rfl) ?_
  refine lv_aload_n hx hb d_Law_law_200 rfl (lv_at hl 5 rfl) ?_
  refine lv_iload hx hb d_Law_law_201 (lv_at hl 1 rfl) ?_
  refine lv_iconst (v := 1) hx hb d_Law_law_203 (by decide) ?_
  refine lv_iadd hx hb d_Law_law_204 ?_
  refine q_topi (z := nI (i + 1)) (nI_add i 1) ?_
  refine law_sld (k := i + 1) S hX hbl hw (by omega) (by omega) d_Law_law_205 ?_
  refine lv_aload_n hx hb d_Law_law_206 rfl (lv_at hl 5 rfl) ?_
  refine lv_iload hx hb d_Law_law_207 (lv_at hl 1 rfl) ?_
  refine lv_iconst (v := 2) hx hb d_Law_law_209 (by decide) ?_
  refine lv_iadd hx hb d_Law_law_210 ?_
  refine q_topi (z := nI (i + 2)) (nI_add i 2) ?_
  refine law_sld (k := i + 2) S hX hbl hw (by omega) (by omega) d_Law_law_211 ?_
  refine lv_aload_n hx hb d_Law_law_212 rfl (lv_at hl 5 rfl) ?_
  refine lv_iload hx hb d_Law_law_213 (lv_at hl 1 rfl) ?_
  refine lv_iconst (v := 3) hx hb d_Law_law_215 (by decide) ?_
  refine lv_iadd hx hb d_Law_law_216 ?_
  refine q_topi (z := nI (i + 3)) (nI_add i 3) ?_
  refine law_sld (k := i + 3) S hX hbl hw (by omega) (by omega) d_Law_law_217 ?_
  refine lv_aload_n hx hb d_Law_law_218 rfl (lv_at hl 5 rfl) ?_
  refine lv_iload hx hb d_Law_law_219 (lv_at hl 1 rfl) ?_
  refine lv_iconst (v := 4) hx hb d_Law_law_221 (by decide) ?_
  refine lv_iadd hx hb d_Law_law_222 ?_
  refine q_topi (z := nI (i + 4)) (nI_add i 4) ?_
  refine law_sld (k := i + 4) S hX hbl hw (by omega) (by omega) d_Law_law_223 ?_
  obtain ⟨fr2, hmo2⟩ := (hR).mo
  refine q_cg (q_runV (As := [.int (xs (i + 1)), .int (xs (i + 2)), .int (xs (i + 3)), .int (xs (i + 4))]) (rest := []) S (Cg.back hQ (fun z => z.len) ((ou, lo ti f) :: wc)) (cw_v hts tb_5_114 k_Mod_root rfl rfl ⟨by decide, by decide⟩) hw ((wc).length + 1) (at_mo hmo2) rfl rfl hl.1 rfl (Nat.le_of_ble_eq_true rfl) d_Law_law_224 hroom) hw (fun z hD => z.backf hD) (fun zR2 H locs _ hw => ?_)
  have hR2 := zR2.2.1
  refine W.eq (g2 := F0 m9 227 ls [.int (0 : Int32)]) rfl ?_
  have hw : Lv _ _ _ _ _ ((ou, lo ti f) :: (wc ++ zR2.1)) _ _ _ := hw
  refine lv_istore (lv' := [(6, .int (0 : Int32)), (5, .int (3 : Int32)), (4, .int (nI i)), (3, .ref ou), (2, .ref mo), (1, .ref co), (0, .ref b)]) hx hb d_Law_law_227 hl (by decide) rfl (fun ls hl => ?_)
  refine lv_aload_n hx hb d_Law_law_229 rfl (lv_at hl 4 rfl) ?_
  obtain ⟨fr3, hmo3⟩ := (hR2).mo
  refine q_cg (q_runV (As := []) (rest := []) S (Cg.back (rk_thrown l D hR2) (fun z => z.len) ((ou, lo ti f) :: wc)) (cw_v hts tb_5_102 k_Mod_thrown rfl rfl ⟨by decide, by decide⟩) hw ((wc).length + 1) (at_mo hmo3) rfl rfl hl.1 rfl (Nat.le_of_ble_eq_true rfl) d_Law_law_230 hroom) hw (fun z hD => z.backf hD) (fun zR3 H locs _ hw => ?_)
  have hR3 := zR3.2.1
  refine W.eq (g2 := F0 m9 233 ls [.int (3 : Int32)]) rfl ?_
  have hw : Lv _ _ _ _ _ ((ou, lo ti f) :: (wc ++ zR3.1)) _ _ _ := hw
  refine lv_iload hx hb d_Law_law_233 (lv_at hl 1 rfl) ?_
  refine lv_icmp_eq hx hb d_Law_law_235 rfl (fun _ => ?_) (fun h => absurd h (by decide))
  refine lv_iload hx hb d_Law_law_240 (lv_at hl 1 rfl) ?_
  refine lv_if_ne hx hb d_Law_law_242 rfl (fun _ => ?_) (fun h => absurd h (by decide))
  refine lv_goto hx hb d_Law_law_257 rfl ?_
  exact J _ _ _ _ _ _ _ _ _ _ hK hR3 hm hw (lv_sub (l' := [(4, .int (nI i)), (3, .ref ou), (2, .ref mo), (1, .ref co), (0, .ref b)]) hl [2, 3, 4, 5, 6] rfl)
set_option maxHeartbeats 4000000 in
set_option maxRecDepth 100000 in
theorem L_put_g {p9 : Program} {l : Launch} {e9 : Env} {s9 : State} {m9 : MethodId} {b9 : List Frame} {me9 : Method} {c9 : Code} {b L : Nat} {xs : Nat → Int32} {D : va_G} {ti : Nat → ClassId} {co mo ou i cells slots : Nat} {Q9 : State → Prop} {H : Heap} {locs : List Loc} {ls : Array Slot} {wc wr : va_W} {f : Nat → Int64} {σ : KS} {st : Int32} {m0 : Nat} {th : Int32}
    (S : CallFix p9 m9 c9 code 7 s9 #[Value.ref b] TB "CheriCoreLaw") (hX : va_X b L xs s9 s9.heap) (hbl : b < s9.heap.size) (hN : NW s9) (hZ : ZA s9) (hL : L ≤ 2560) (hi : i + 5 ≤ L) (hroom : cells + 1 ≤ 601024 ∧ slots + 6 ≤ 7293034) (hK : KI ti co σ st m0 wc) (hR : RI ti mo σ st m0 th wr) (hm : m0 ≤ 8) (hw : Lv D clz (ty4 ti) (AL s9) s9.heap ((ou, lo ti f) :: (wc ++ wr)) s9 H locs) (hl : lv_has ls 7 [(4, .int (nI i)), (3, .ref ou), (2, .ref mo), (1, .ref co), (0, .ref b)])
    (σ1 : KS) (st1 : Int32) (m1 : Nat) (hm1 : m1 ≤ 8) (hM : CK l y_Cor_put (wl y_Cor_put b_Cor_put 4 none) (rmL 3) D ti [.ref co, .int (xs (i + 1)), .int (xs (i + 2)), .int (xs (i + 3))] wc (KI ti co σ1 st1 m1) (none)) (hQ : CK l y_Mod_put (wl y_Mod_put b_Mod_put 4 none) (rmL 1) D ti [.ref mo, .int (xs (i + 1)), .int (xs (i + 2)), .int (xs (i + 3))] wr (RI ti mo σ1 st1 m1 0) (none)) (J : LJ p9 l e9 s9 m9 b9 me9 c9 b D ti co mo ou i (cells + 1) (slots + 6) Q9 811) : W p9 l e9 room_1 s9 m9 #[Value.ref b] b9 me9 c9 H locs cells slots Q9 (F0 m9 260 ls []) := by
  obtain ⟨hx, hb, hml, hown, hts⟩ := id S
  refine W.widen (k := cells + 1) (n := slots + 6) (by omega) (by omega) ?_
  refine lv_aload_n hx hb d_Law_law_260 rfl (lv_at hl 3 rfl) ?_
  refine lv_aload_n hx hb d_Law_law_261 rfl (lv_at hl 4 rfl) ?_
  refine lv_iload hx hb d_Law_law_262 (lv_at hl 0 rfl) ?_
  refine lv_iconst (v := 1) hx hb d_Law_law_264 (by decide) ?_
  refine lv_iadd hx hb d_Law_law_265 ?_
  refine q_topi (z := nI (i + 1)) (nI_add i 1) ?_
  refine law_sld (k := i + 1) S hX hbl hw (by omega) (by omega) d_Law_law_266 ?_
  refine lv_aload_n hx hb d_Law_law_267 rfl (lv_at hl 4 rfl) ?_
  refine lv_iload hx hb d_Law_law_268 (lv_at hl 0 rfl) ?_
  refine lv_iconst (v := 2) hx hb d_Law_law_270 (by decide) ?_
  refine lv_iadd hx hb d_Law_law_271 ?_
  refine q_topi (z := nI (i + 2)) (nI_add i 2) ?_
  refine law_sld (k := i + 2) S hX hbl hw (by omega) (by omega) d_Law_law_272 ?_
  refine lv_aload_n hx hb d_Law_law_273 rfl (lv_at hl 4 rfl) ?_
  refine lv_iload hx hb d_Law_law_274 (lv_at hl 0 rfl) ?_
  refine lv_iconst (v := 3) hx hb d_Law_law_276 (by decide) ?_
  refine lv_iadd hx hb d_Law_law_277 ?_
  refine q_topi (z := nI (i + 3)) (nI_add i 3) ?_
  refine law_sld (k := i + 3) S hX hbl hw (by omega) (by omega) d_Law_law_278 ?_
  refine q_cg (q_runSW (As := [.ref co, .int (xs (i + 1)), .int (xs (i + 2)), .int (xs (i + 3))]) (rest := []) S (CK.at (g_Law_put l D ti co wc _ _ _ _  (hK).co hM) [(ou, lo ti f)] wr) k_Law_put tb_3_134 rfl rfl ⟨by decide, by decide⟩ ⟨Pr.blind, hw.pre⟩ rfl hl.1 rfl (Nat.le_of_ble_eq_true rfl) d_Law_law_279 hroom) hw (fun z hD => z.apart hD) (fun zK H locs _ hw => ?_)
  have hK1 := zK.2.1
  refine W.eq (g2 := F0 m9 282 ls [.int (0 : Int32)]) rfl ?_
  have hw : Lv _ _ _ _ _ ((ou, lo ti f) :: (zK.1 ++ wr)) _ _ _ := hw
  refine lv_istore (lv' := [(5, .int (0 : Int32)), (4, .int (nI i)), (3, .ref ou), (2, .ref mo), (1, .ref co), (0, .ref b)]) hx hb d_Law_law_282 hl (by decide) rfl (fun ls hl => ?_)
  refine lv_aload_n hx hb d_Law_law_284 rfl (lv_at hl 3 rfl) ?_
  refine lv_aload_n hx hb d_Law_law_285 rfl (lv_at hl 5 rfl) ?_
  refine lv_iload hx hb d_Law_law_286 (lv_at hl 1 rfl) ?_
  refine lv_iconst (v := 1) hx hb d_Law_law_288 (by decide) ?_
  refine lv_iadd hx hb d_Law_law_289 ?_
  refine q_topi (z := nI (i + 1)) (nI_add i 1) ?_
  refine law_sld (k := i + 1) S hX hbl hw (by omega) (by omega) d_Law_law_290 ?_
  refine lv_aload_n hx hb d_Law_law_291 rfl (lv_at hl 5 rfl) ?_
  refine lv_iload hx hb d_Law_law_292 (lv_at hl 1 rfl) ?_
  refine lv_iconst (v := 2) hx hb d_Law_law_294 (by decide) ?_
  refine lv_iadd hx hb d_Law_law_295 ?_
  refine q_topi (z := nI (i + 2)) (nI_add i 2) ?_
  refine law_sld (k := i + 2) S hX hbl hw (by omega) (by omega) d_Law_law_296 ?_
  refine lv_aload_n hx hb d_Law_law_297 rfl (lv_at hl 5 rfl) ?_
  refine lv_iload hx hb d_Law_law_298 (lv_at hl 1 rfl) ?_
  refine lv_iconst (v := 3) hx hb d_Law_law_300 (by decide) ?_
  refine lv_iadd hx hb d_Law_law_301 ?_
  refine q_topi (z := nI (i + 3)) (nI_add i 3) ?_
  refine law_sld (k := i + 3) S hX hbl hw (by omega) (by omega) d_Law_law_302 ?_
  obtain ⟨fr2, hmo2⟩ := (hR).mo
  refine q_cg (q_runV (As := [.int (xs (i + 1)), .int (xs (i + 2)), .int (xs (i + 3))]) (rest := []) S (Cg.back hQ (fun z => z.len) ((ou, lo ti f) :: zK.1)) (cw_v hts tb_5_160 k_Mod_put rfl rfl ⟨by decide, by decide⟩) hw ((zK.1).length + 1) (at_mo hmo2) rfl rfl hl.1 rfl (Nat.le_of_ble_eq_true rfl) d_Law_law_303 hroom) hw (fun z hD => z.backf hD) (fun zR2 H locs _ hw => ?_)
  have hR2 := zR2.2.1
  refine W.eq (g2 := F0 m9 306 ls []) rfl ?_
  have hw : Lv _ _ _ _ _ ((ou, lo ti f) :: (zK.1 ++ zR2.1)) _ _ _ := hw
  refine lv_aload_n hx hb d_Law_law_306 rfl (lv_at hl 3 rfl) ?_
  obtain ⟨fr3, hmo3⟩ := (hR2).mo
  refine q_cg (q_runV (As := []) (rest := []) S (Cg.back (rk_thrown l D hR2) (fun z => z.len) ((ou, lo ti f) :: zK.1)) (cw_v hts tb_5_102 k_Mod_thrown rfl rfl ⟨by decide, by decide⟩) hw ((zK.1).length + 1) (at_mo hmo3) rfl rfl hl.1 rfl (Nat.le_of_ble_eq_true rfl) d_Law_law_307 hroom) hw (fun z hD => z.backf hD) (fun zR3 H locs _ hw => ?_)
  have hR3 := zR3.2.1
  refine W.eq (g2 := F0 m9 310 ls [.int (0 : Int32)]) rfl ?_
  have hw : Lv _ _ _ _ _ ((ou, lo ti f) :: (zK.1 ++ zR3.1)) _ _ _ := hw
  refine lv_iload hx hb d_Law_law_310 (lv_at hl 0 rfl) ?_
  refine lv_icmp_eq hx hb d_Law_law_312 rfl (fun _ => ?_) (fun h => absurd h (by decide))
  refine lv_goto hx hb d_Law_law_317 rfl ?_
  exact J _ _ _ _ _ _ _ _ _ _ hK1 hR3 hm1 hw (lv_sub (l' := [(4, .int (nI i)), (3, .ref ou), (2, .ref mo), (1, .ref co), (0, .ref b)]) hl [1, 2, 3, 4, 5] rfl)
set_option maxHeartbeats 4000000 in
set_option maxRecDepth 100000 in
theorem L_put_x {p9 : Program} {l : Launch} {e9 : Env} {s9 : State} {m9 : MethodId} {b9 : List Frame} {me9 : Method} {c9 : Code} {b L : Nat} {xs : Nat → Int32} {D : va_G} {ti : Nat → ClassId} {co mo ou i cells slots : Nat} {Q9 : State → Prop} {H : Heap} {locs : List Loc} {ls : Array Slot} {wc wr : va_W} {f : Nat → Int64} {σ : KS} {st : Int32} {m0 : Nat} {th : Int32}
    (S : CallFix p9 m9 c9 code 7 s9 #[Value.ref b] TB "CheriCoreLaw") (hX : va_X b L xs s9 s9.heap) (hbl : b < s9.heap.size) (hN : NW s9) (hZ : ZA s9) (hL : L ≤ 2560) (hi : i + 5 ≤ L) (hroom : cells + 1 ≤ 601024 ∧ slots + 6 ≤ 7293034) (hK : KI ti co σ st m0 wc) (hR : RI ti mo σ st m0 th wr) (hm : m0 ≤ 8) (hw : Lv D clz (ty4 ti) (AL s9) s9.heap ((ou, lo ti f) :: (wc ++ wr)) s9 H locs) (hl : lv_has ls 7 [(4, .int (nI i)), (3, .ref ou), (2, .ref mo), (1, .ref co), (0, .ref b)])
    (hM : CT1 l y_Cor_put (wl y_Cor_put b_Cor_put 4 none) D ti [.ref co, .int (xs (i + 1)), .int (xs (i + 2)), .int (xs (i + 3))] wc 58 X1 85 "no such register") (hQ : CK l y_Mod_put (wl y_Mod_put b_Mod_put 4 none) (rmL 1) D ti [.ref mo, .int (xs (i + 1)), .int (xs (i + 2)), .int (xs (i + 3))] wr (RI ti mo σ st m0 1) (none)) (J : LJ p9 l e9 s9 m9 b9 me9 c9 b D ti co mo ou i (cells + 1) (slots + 6) Q9 811) : W p9 l e9 room_1 s9 m9 #[Value.ref b] b9 me9 c9 H locs cells slots Q9 (F0 m9 260 ls []) := by
  obtain ⟨hx, hb, hml, hown, hts⟩ := id S
  refine lv_aload_n hx hb d_Law_law_260 rfl (lv_at hl 3 rfl) ?_
  refine lv_aload_n hx hb d_Law_law_261 rfl (lv_at hl 4 rfl) ?_
  refine lv_iload hx hb d_Law_law_262 (lv_at hl 0 rfl) ?_
  refine lv_iconst (v := 1) hx hb d_Law_law_264 (by decide) ?_
  refine lv_iadd hx hb d_Law_law_265 ?_
  refine q_topi (z := nI (i + 1)) (nI_add i 1) ?_
  refine law_sld (k := i + 1) S hX hbl hw (by omega) (by omega) d_Law_law_266 ?_
  refine lv_aload_n hx hb d_Law_law_267 rfl (lv_at hl 4 rfl) ?_
  refine lv_iload hx hb d_Law_law_268 (lv_at hl 0 rfl) ?_
  refine lv_iconst (v := 2) hx hb d_Law_law_270 (by decide) ?_
  refine lv_iadd hx hb d_Law_law_271 ?_
  refine q_topi (z := nI (i + 2)) (nI_add i 2) ?_
  refine law_sld (k := i + 2) S hX hbl hw (by omega) (by omega) d_Law_law_272 ?_
  refine lv_aload_n hx hb d_Law_law_273 rfl (lv_at hl 4 rfl) ?_
  refine lv_iload hx hb d_Law_law_274 (lv_at hl 0 rfl) ?_
  refine lv_iconst (v := 3) hx hb d_Law_law_276 (by decide) ?_
  refine lv_iadd hx hb d_Law_law_277 ?_
  refine q_topi (z := nI (i + 3)) (nI_add i 3) ?_
  refine law_sld (k := i + 3) S hX hbl hw (by omega) (by omega) d_Law_law_278 ?_
  refine q_cx (q_runSW (As := [.ref co, .int (xs (i + 1)), .int (xs (i + 2)), .int (xs (i + 3))]) (rest := []) S (x_Law_put l D ti co wc _ _ _ (hK).co hM) k_Law_put tb_3_134 rfl rfl ⟨by decide, by decide⟩ (Lv.preX (ws := wc) (Y := wr) hw.tl hN (fun U hU hW => hZ.moved hW (fun q hq => by rw [hU]; exact hw.2.2.2.2.1 q hq (Nat.not_le.mpr hq)))) rfl hl.1 rfl (Nat.le_of_ble_eq_true rfl) d_Law_law_279 hroom) hw (fun H hw => ?_)
  refine W.eq (g2 := F0 m9 282 ls [.int (1 : Int32)]) rfl ?_
  have hw : Lv _ _ _ _ _ ((ou, lo ti f) :: (wc ++ wr)) _ _ _ := hw
  refine lv_istore (lv' := [(5, .int (1 : Int32)), (4, .int (nI i)), (3, .ref ou), (2, .ref mo), (1, .ref co), (0, .ref b)]) hx hb d_Law_law_282 hl (by decide) rfl (fun ls hl => ?_)
  refine lv_aload_n hx hb d_Law_law_284 rfl (lv_at hl 3 rfl) ?_
  refine lv_aload_n hx hb d_Law_law_285 rfl (lv_at hl 5 rfl) ?_
  refine lv_iload hx hb d_Law_law_286 (lv_at hl 1 rfl) ?_
  refine lv_iconst (v := 1) hx hb d_Law_law_288 (by decide) ?_
  refine lv_iadd hx hb d_Law_law_289 ?_
  refine q_topi (z := nI (i + 1)) (nI_add i 1) ?_
  refine law_sld (k := i + 1) S hX hbl hw (by omega) (by omega) d_Law_law_290 ?_
  refine lv_aload_n hx hb d_Law_law_291 rfl (lv_at hl 5 rfl) ?_
  refine lv_iload hx hb d_Law_law_292 (lv_at hl 1 rfl) ?_
  refine lv_iconst (v := 2) hx hb d_Law_law_294 (by decide) ?_
  refine lv_iadd hx hb d_Law_law_295 ?_
  refine q_topi (z := nI (i + 2)) (nI_add i 2) ?_
  refine law_sld (k := i + 2) S hX hbl hw (by omega) (by omega) d_Law_law_296 ?_
  refine lv_aload_n hx hb d_Law_law_297 rfl (lv_at hl 5 rfl) ?_
  refine lv_iload hx hb d_Law_law_298 (lv_at hl 1 rfl) ?_
  refine lv_iconst (v := 3) hx hb d_Law_law_300 (by decide) ?_
  refine lv_iadd hx hb d_Law_law_301 ?_
  refine q_topi (z := nI (i + 3)) (nI_add i 3) ?_
  refine law_sld (k := i + 3) S hX hbl hw (by omega) (by omega) d_Law_law_302 ?_
  obtain ⟨fr2, hmo2⟩ := (hR).mo
  refine q_cg (q_runV (As := [.int (xs (i + 1)), .int (xs (i + 2)), .int (xs (i + 3))]) (rest := []) S (Cg.back hQ (fun z => z.len) ((ou, lo ti f) :: wc)) (cw_v hts tb_5_160 k_Mod_put rfl rfl ⟨by decide, by decide⟩) hw ((wc).length + 1) (at_mo hmo2) rfl rfl hl.1 rfl (Nat.le_of_ble_eq_true rfl) d_Law_law_303 hroom) hw (fun z hD => z.backf hD) (fun zR2 H locs _ hw => ?_)
  have hR2 := zR2.2.1
  refine W.eq (g2 := F0 m9 306 ls []) rfl ?_
  have hw : Lv _ _ _ _ _ ((ou, lo ti f) :: (wc ++ zR2.1)) _ _ _ := hw
  refine lv_aload_n hx hb d_Law_law_306 rfl (lv_at hl 3 rfl) ?_
  obtain ⟨fr3, hmo3⟩ := (hR2).mo
  refine q_cg (q_runV (As := []) (rest := []) S (Cg.back (rk_thrown l D hR2) (fun z => z.len) ((ou, lo ti f) :: wc)) (cw_v hts tb_5_102 k_Mod_thrown rfl rfl ⟨by decide, by decide⟩) hw ((wc).length + 1) (at_mo hmo3) rfl rfl hl.1 rfl (Nat.le_of_ble_eq_true rfl) d_Law_law_307 hroom) hw (fun z hD => z.backf hD) (fun zR3 H locs _ hw => ?_)
  have hR3 := zR3.2.1
  refine W.eq (g2 := F0 m9 310 ls [.int (1 : Int32)]) rfl ?_
  have hw : Lv _ _ _ _ _ ((ou, lo ti f) :: (wc ++ zR3.1)) _ _ _ := hw
  refine lv_iload hx hb d_Law_law_310 (lv_at hl 0 rfl) ?_
  refine lv_icmp_eq hx hb d_Law_law_312 rfl (fun _ => ?_) (fun h => absurd h (by decide))
  refine lv_goto hx hb d_Law_law_317 rfl ?_
  exact J _ _ _ _ _ _ _ _ _ _ hK hR3 hm hw (lv_sub (l' := [(4, .int (nI i)), (3, .ref ou), (2, .ref mo), (1, .ref co), (0, .ref b)]) hl [1, 2, 3, 4, 5] rfl)
set_option maxHeartbeats 4000000 in
set_option maxRecDepth 100000 in
theorem L_run_g {p9 : Program} {l : Launch} {e9 : Env} {s9 : State} {m9 : MethodId} {b9 : List Frame} {me9 : Method} {c9 : Code} {b L : Nat} {xs : Nat → Int32} {D : va_G} {ti : Nat → ClassId} {co mo ou i cells slots : Nat} {Q9 : State → Prop} {H : Heap} {locs : List Loc} {ls : Array Slot} {wc wr : va_W} {f : Nat → Int64} {σ : KS} {st : Int32} {m0 : Nat} {th : Int32}
    (S : CallFix p9 m9 c9 code 7 s9 #[Value.ref b] TB "CheriCoreLaw") (hX : va_X b L xs s9 s9.heap) (hbl : b < s9.heap.size) (hN : NW s9) (hZ : ZA s9) (hL : L ≤ 2560) (hi : i + 5 ≤ L) (hroom : cells + 1 ≤ 601024 ∧ slots + 6 ≤ 7293034) (hK : KI ti co σ st m0 wc) (hR : RI ti mo σ st m0 th wr) (hm : m0 ≤ 8) (hw : Lv D clz (ty4 ti) (AL s9) s9.heap ((ou, lo ti f) :: (wc ++ wr)) s9 H locs) (hl : lv_has ls 7 [(4, .int (nI i)), (3, .ref ou), (2, .ref mo), (1, .ref co), (0, .ref b)])
    (σ1 : KS) (st1 : Int32) (m1 : Nat) (hm1 : m1 ≤ 8) (v : Int32) (hM : CK l y_Cor_run (wl y_Cor_run b_Cor_run 3 (some .int)) (rmL 8) D ti [.ref co, .int (xs (i + 1))] wc (KI ti co σ1 st1 m1) (some (.int v))) (hQ : CK l y_Mod_run (wl y_Mod_run b_Mod_run 3 (some .int)) (rmL 14) D ti [.ref mo, .int (xs (i + 1))] wr (RI ti mo σ1 st1 m1 0) (some (.int v))) (J : LJ p9 l e9 s9 m9 b9 me9 c9 b D ti co mo ou i (cells + 1) (slots + 6) Q9 811) : W p9 l e9 room_1 s9 m9 #[Value.ref b] b9 me9 c9 H locs cells slots Q9 (F0 m9 320 ls []) := by
  obtain ⟨hx, hb, hml, hown, hts⟩ := id S
  refine W.widen (k := cells + 1) (n := slots + 6) (by omega) (by omega) ?_
  refine lv_aload_n hx hb d_Law_law_320 rfl (lv_at hl 3 rfl) ?_
  refine lv_aload_n hx hb d_Law_law_321 rfl (lv_at hl 4 rfl) ?_
  refine lv_iload hx hb d_Law_law_322 (lv_at hl 0 rfl) ?_
  refine lv_iconst (v := 1) hx hb d_Law_law_324 (by decide) ?_
  refine lv_iadd hx hb d_Law_law_325 ?_
  refine q_topi (z := nI (i + 1)) (nI_add i 1) ?_
  refine law_sld (k := i + 1) S hX hbl hw (by omega) (by omega) d_Law_law_326 ?_
  refine lv_aload_n hx hb d_Law_law_327 rfl (lv_at hl 1 rfl) ?_
  refine q_cg (q_runSW (As := [.ref co, .int (xs (i + 1)), .ref ou]) (rest := []) S (Cg.front (g_Law_run l D ti co ou f wc _ _ v (hK).co hM) (fun z => congrArg (· + 1) z.len) wr) k_Law_run tb_3_141 rfl rfl ⟨by decide, by decide⟩ ⟨Pr.blind, hw.pre⟩ rfl hl.1 rfl (Nat.le_of_ble_eq_true rfl) d_Law_law_328 hroom) hw (fun z hD => z.consf hD) (fun zK H locs _ hw => ?_)
  have hK1 := zK.2.1
  refine W.eq (g2 := F0 m9 331 ls [.int (0 : Int32)]) rfl ?_
  have hw : Lv _ _ _ _ _ ((ou, lo ti (vp_updL f 0 v.toInt64)) :: (zK.1 ++ wr)) _ _ _ := hw
  refine lv_istore (lv' := [(5, .int (0 : Int32)), (4, .int (nI i)), (3, .ref ou), (2, .ref mo), (1, .ref co), (0, .ref b)]) hx hb d_Law_law_331 hl (by decide) rfl (fun ls hl => ?_)
  refine lv_aload_n hx hb d_Law_law_333 rfl (lv_at hl 3 rfl) ?_
  refine lv_aload_n hx hb d_Law_law_334 rfl (lv_at hl 5 rfl) ?_
  refine lv_iload hx hb d_Law_law_335 (lv_at hl 1 rfl) ?_
  refine lv_iconst (v := 1) hx hb d_Law_law_337 (by decide) ?_
  refine lv_iadd hx hb d_Law_law_338 ?_
  refine q_topi (z := nI (i + 1)) (nI_add i 1) ?_
  refine law_sld (k := i + 1) S hX hbl hw (by omega) (by omega) d_Law_law_339 ?_
  obtain ⟨fr2, hmo2⟩ := (hR).mo
  refine q_cg (q_runV (As := [.int (xs (i + 1))]) (rest := []) S (Cg.back hQ (fun z => z.len) ((ou, lo ti (vp_updL f 0 v.toInt64)) :: zK.1)) (cw_v hts tb_5_164 k_Mod_run rfl rfl ⟨by decide, by decide⟩) hw ((zK.1).length + 1) (at_mo hmo2) rfl rfl hl.1 rfl (Nat.le_of_ble_eq_true rfl) d_Law_law_340 hroom) hw (fun z hD => z.backf hD) (fun zR2 H locs _ hw => ?_)
  have hR2 := zR2.2.1
  refine W.eq (g2 := F0 m9 343 ls [.int v]) rfl ?_
  have hw : Lv _ _ _ _ _ ((ou, lo ti (vp_updL f 0 v.toInt64)) :: (zK.1 ++ zR2.1)) _ _ _ := hw
  refine lv_istore (lv' := [(6, .int v), (5, .int (0 : Int32)), (4, .int (nI i)), (3, .ref ou), (2, .ref mo), (1, .ref co), (0, .ref b)]) hx hb d_Law_law_343 hl (by decide) rfl (fun ls hl => ?_)
  refine lv_aload_n hx hb d_Law_law_345 rfl (lv_at hl 4 rfl) ?_
  obtain ⟨fr3, hmo3⟩ := (hR2).mo
  refine q_cg (q_runV (As := []) (rest := []) S (Cg.back (rk_thrown l D hR2) (fun z => z.len) ((ou, lo ti (vp_updL f 0 v.toInt64)) :: zK.1)) (cw_v hts tb_5_102 k_Mod_thrown rfl rfl ⟨by decide, by decide⟩) hw ((zK.1).length + 1) (at_mo hmo3) rfl rfl hl.1 rfl (Nat.le_of_ble_eq_true rfl) d_Law_law_346 hroom) hw (fun z hD => z.backf hD) (fun zR3 H locs _ hw => ?_)
  have hR3 := zR3.2.1
  refine W.eq (g2 := F0 m9 349 ls [.int (0 : Int32)]) rfl ?_
  have hw : Lv _ _ _ _ _ ((ou, lo ti (vp_updL f 0 v.toInt64)) :: (zK.1 ++ zR3.1)) _ _ _ := hw
  refine lv_iload hx hb d_Law_law_349 (lv_at hl 1 rfl) ?_
  refine lv_icmp_eq hx hb d_Law_law_351 rfl (fun _ => ?_) (fun h => absurd h (by decide))
  refine lv_iload hx hb d_Law_law_356 (lv_at hl 1 rfl) ?_
  refine lv_if_ne hx hb d_Law_law_358 rfl (fun h => absurd h (by decide)) (fun _ => ?_)
  refine lv_aload_n hx hb d_Law_law_361 rfl (lv_at hl 3 rfl) ?_
  refine lv_iconst (v := 0) hx hb d_Law_law_362 (by decide) ?_
  refine q_laldN (k := 0) S hw 0 2 rfl rfl (by decide) (by decide) d_Law_law_363 ?_
  refine q_topl (z := v.toInt64) (upd_0 _ _) ?_
  refine lv_iload hx hb d_Law_law_364 (lv_at hl 0 rfl) ?_
  refine lv_i2l (v := (v.toInt64)) hx hb d_Law_law_366 rfl ?_
  refine q_lc_eq S d_Law_law_367 d_Law_law_368 rfl (fun _ => ?_) (fun h => absurd (rfl) h)
  refine lv_goto hx hb d_Law_law_373 rfl ?_
  exact J _ _ _ _ _ _ _ _ _ _ hK1 hR3 hm1 hw (lv_sub (l' := [(4, .int (nI i)), (3, .ref ou), (2, .ref mo), (1, .ref co), (0, .ref b)]) hl [2, 3, 4, 5, 6] rfl)
set_option maxHeartbeats 4000000 in
set_option maxRecDepth 100000 in
theorem L_run_xX {p9 : Program} {l : Launch} {e9 : Env} {s9 : State} {m9 : MethodId} {b9 : List Frame} {me9 : Method} {c9 : Code} {b L : Nat} {xs : Nat → Int32} {D : va_G} {ti : Nat → ClassId} {co mo ou i cells slots : Nat} {Q9 : State → Prop} {H : Heap} {locs : List Loc} {ls : Array Slot} {wc wr : va_W} {f : Nat → Int64} {σ : KS} {st : Int32} {m0 : Nat} {th : Int32}
    (S : CallFix p9 m9 c9 code 7 s9 #[Value.ref b] TB "CheriCoreLaw") (hX : va_X b L xs s9 s9.heap) (hbl : b < s9.heap.size) (hN : NW s9) (hZ : ZA s9) (hL : L ≤ 2560) (hi : i + 5 ≤ L) (hroom : cells + 1 ≤ 601024 ∧ slots + 6 ≤ 7293034) (hK : KI ti co σ st m0 wc) (hR : RI ti mo σ st m0 th wr) (hm : m0 ≤ 8) (hw : Lv D clz (ty4 ti) (AL s9) s9.heap ((ou, lo ti f) :: (wc ++ wr)) s9 H locs) (hl : lv_has ls 7 [(4, .int (nI i)), (3, .ref ou), (2, .ref mo), (1, .ref co), (0, .ref b)])
    (hM : CT1 l y_Cor_run (wl y_Cor_run b_Cor_run 3 (some .int)) D ti [.ref co, .int (xs (i + 1))] wc 95 X2 131 "no such number of steps") (hQ : CK l y_Mod_run (wl y_Mod_run b_Mod_run 3 (some .int)) (rmL 14) D ti [.ref mo, .int (xs (i + 1))] wr (RI ti mo σ st m0 1) (some (.int 0))) (J : LJ p9 l e9 s9 m9 b9 me9 c9 b D ti co mo ou i (cells + 1) (slots + 6) Q9 811) : W p9 l e9 room_1 s9 m9 #[Value.ref b] b9 me9 c9 H locs cells slots Q9 (F0 m9 320 ls []) := by
  obtain ⟨hx, hb, hml, hown, hts⟩ := id S
  refine lv_aload_n hx hb d_Law_law_320 rfl (lv_at hl 3 rfl) ?_
  refine lv_aload_n hx hb d_Law_law_321 rfl (lv_at hl 4 rfl) ?_
  refine lv_iload hx hb d_Law_law_322 (lv_at hl 0 rfl) ?_
  refine lv_iconst (v := 1) hx hb d_Law_law_324 (by decide) ?_
  refine lv_iadd hx hb d_Law_law_325 ?_
  refine q_topi (z := nI (i + 1)) (nI_add i 1) ?_
  refine law_sld (k := i + 1) S hX hbl hw (by omega) (by omega) d_Law_law_326 ?_
  refine lv_aload_n hx hb d_Law_law_327 rfl (lv_at hl 1 rfl) ?_
  refine q_cx (q_runSW (As := [.ref co, .int (xs (i + 1)), .ref ou]) (rest := []) S (x_Law_runX l D ti co ou f wc _ (hK).co hM) k_Law_run tb_3_141 rfl rfl ⟨by decide, by decide⟩ (Lv.preX (ws := (ou, lo ti f) :: wc) (Y := wr) hw hN (fun U hU hW => hZ.moved hW (fun q hq => by rw [hU]; exact hw.2.2.2.2.1 q hq (Nat.not_le.mpr hq)))) rfl hl.1 rfl (Nat.le_of_ble_eq_true rfl) d_Law_law_328 hroom) hw (fun H hw => ?_)
  refine W.eq (g2 := F0 m9 331 ls [.int (1 : Int32)]) rfl ?_
  have hw : Lv _ _ _ _ _ ((ou, lo ti f) :: (wc ++ wr)) _ _ _ := hw
  refine lv_istore (lv' := [(5, .int (1 : Int32)), (4, .int (nI i)), (3, .ref ou), (2, .ref mo), (1, .ref co), (0, .ref b)]) hx hb d_Law_law_331 hl (by decide) rfl (fun ls hl => ?_)
  refine lv_aload_n hx hb d_Law_law_333 rfl (lv_at hl 3 rfl) ?_
  refine lv_aload_n hx hb d_Law_law_334 rfl (lv_at hl 5 rfl) ?_
  refine lv_iload hx hb d_Law_law_335 (lv_at hl 1 rfl) ?_
  refine lv_iconst (v := 1) hx hb d_Law_law_337 (by decide) ?_
  refine lv_iadd hx hb d_Law_law_338 ?_
  refine q_topi (z := nI (i + 1)) (nI_add i 1) ?_
  refine law_sld (k := i + 1) S hX hbl hw (by omega) (by omega) d_Law_law_339 ?_
  obtain ⟨fr2, hmo2⟩ := (hR).mo
  refine q_cg (q_runV (As := [.int (xs (i + 1))]) (rest := []) S (Cg.back hQ (fun z => z.len) ((ou, lo ti f) :: wc)) (cw_v hts tb_5_164 k_Mod_run rfl rfl ⟨by decide, by decide⟩) hw ((wc).length + 1) (at_mo hmo2) rfl rfl hl.1 rfl (Nat.le_of_ble_eq_true rfl) d_Law_law_340 hroom) hw (fun z hD => z.backf hD) (fun zR2 H locs _ hw => ?_)
  have hR2 := zR2.2.1
  refine W.eq (g2 := F0 m9 343 ls [.int (0 : Int32)]) rfl ?_
  have hw : Lv _ _ _ _ _ ((ou, lo ti f) :: (wc ++ zR2.1)) _ _ _ := hw
  refine lv_istore (lv' := [(6, .int (0 : Int32)), (5, .int (1 : Int32)), (4, .int (nI i)), (3, .ref ou), (2, .ref mo), (1, .ref co), (0, .ref b)]) hx hb d_Law_law_343 hl (by decide) rfl (fun ls hl => ?_)
  refine lv_aload_n hx hb d_Law_law_345 rfl (lv_at hl 4 rfl) ?_
  obtain ⟨fr3, hmo3⟩ := (hR2).mo
  refine q_cg (q_runV (As := []) (rest := []) S (Cg.back (rk_thrown l D hR2) (fun z => z.len) ((ou, lo ti f) :: wc)) (cw_v hts tb_5_102 k_Mod_thrown rfl rfl ⟨by decide, by decide⟩) hw ((wc).length + 1) (at_mo hmo3) rfl rfl hl.1 rfl (Nat.le_of_ble_eq_true rfl) d_Law_law_346 hroom) hw (fun z hD => z.backf hD) (fun zR3 H locs _ hw => ?_)
  have hR3 := zR3.2.1
  refine W.eq (g2 := F0 m9 349 ls [.int (1 : Int32)]) rfl ?_
  have hw : Lv _ _ _ _ _ ((ou, lo ti f) :: (wc ++ zR3.1)) _ _ _ := hw
  refine lv_iload hx hb d_Law_law_349 (lv_at hl 1 rfl) ?_
  refine lv_icmp_eq hx hb d_Law_law_351 rfl (fun _ => ?_) (fun h => absurd h (by decide))
  refine lv_iload hx hb d_Law_law_356 (lv_at hl 1 rfl) ?_
  refine lv_if_ne hx hb d_Law_law_358 rfl (fun _ => ?_) (fun h => absurd h (by decide))
  refine lv_goto hx hb d_Law_law_373 rfl ?_
  exact J _ _ _ _ _ _ _ _ _ _ hK hR3 hm hw (lv_sub (l' := [(4, .int (nI i)), (3, .ref ou), (2, .ref mo), (1, .ref co), (0, .ref b)]) hl [2, 3, 4, 5, 6] rfl)
set_option maxHeartbeats 4000000 in
set_option maxRecDepth 100000 in
theorem L_run_xY {p9 : Program} {l : Launch} {e9 : Env} {s9 : State} {m9 : MethodId} {b9 : List Frame} {me9 : Method} {c9 : Code} {b L : Nat} {xs : Nat → Int32} {D : va_G} {ti : Nat → ClassId} {co mo ou i cells slots : Nat} {Q9 : State → Prop} {H : Heap} {locs : List Loc} {ls : Array Slot} {wc wr : va_W} {f : Nat → Int64} {σ : KS} {st : Int32} {m0 : Nat} {th : Int32}
    (S : CallFix p9 m9 c9 code 7 s9 #[Value.ref b] TB "CheriCoreLaw") (hX : va_X b L xs s9 s9.heap) (hbl : b < s9.heap.size) (hN : NW s9) (hZ : ZA s9) (hL : L ≤ 2560) (hi : i + 5 ≤ L) (hroom : cells + 1 ≤ 601024 ∧ slots + 6 ≤ 7293034) (hK : KI ti co σ st m0 wc) (hR : RI ti mo σ st m0 th wr) (hm : m0 ≤ 8) (hw : Lv D clz (ty4 ti) (AL s9) s9.heap ((ou, lo ti f) :: (wc ++ wr)) s9 H locs) (hl : lv_has ls 7 [(4, .int (nI i)), (3, .ref ou), (2, .ref mo), (1, .ref co), (0, .ref b)])
    (hM : CT1 l y_Cor_run (wl y_Cor_run b_Cor_run 3 (some .int)) D ti [.ref co, .int (xs (i + 1))] wc 104 X3 137 "the machine is halted") (hQ : CK l y_Mod_run (wl y_Mod_run b_Mod_run 3 (some .int)) (rmL 14) D ti [.ref mo, .int (xs (i + 1))] wr (RI ti mo σ st m0 2) (some (.int 0))) (J : LJ p9 l e9 s9 m9 b9 me9 c9 b D ti co mo ou i (cells + 1) (slots + 6) Q9 811) : W p9 l e9 room_1 s9 m9 #[Value.ref b] b9 me9 c9 H locs cells slots Q9 (F0 m9 320 ls []) := by
  obtain ⟨hx, hb, hml, hown, hts⟩ := id S
  refine lv_aload_n hx hb d_Law_law_320 rfl (lv_at hl 3 rfl) ?_
  refine lv_aload_n hx hb d_Law_law_321 rfl (lv_at hl 4 rfl) ?_
  refine lv_iload hx hb d_Law_law_322 (lv_at hl 0 rfl) ?_
  refine lv_iconst (v := 1) hx hb d_Law_law_324 (by decide) ?_
  refine lv_iadd hx hb d_Law_law_325 ?_
  refine q_topi (z := nI (i + 1)) (nI_add i 1) ?_
  refine law_sld (k := i + 1) S hX hbl hw (by omega) (by omega) d_Law_law_326 ?_
  refine lv_aload_n hx hb d_Law_law_327 rfl (lv_at hl 1 rfl) ?_
  refine q_cx (q_runSW (As := [.ref co, .int (xs (i + 1)), .ref ou]) (rest := []) S (x_Law_runY l D ti co ou f wc _ (hK).co hM) k_Law_run tb_3_141 rfl rfl ⟨by decide, by decide⟩ (Lv.preX (ws := (ou, lo ti f) :: wc) (Y := wr) hw hN (fun U hU hW => hZ.moved hW (fun q hq => by rw [hU]; exact hw.2.2.2.2.1 q hq (Nat.not_le.mpr hq)))) rfl hl.1 rfl (Nat.le_of_ble_eq_true rfl) d_Law_law_328 hroom) hw (fun H hw => ?_)
  refine W.eq (g2 := F0 m9 331 ls [.int (2 : Int32)]) rfl ?_
  have hw : Lv _ _ _ _ _ ((ou, lo ti f) :: (wc ++ wr)) _ _ _ := hw
  refine lv_istore (lv' := [(5, .int (2 : Int32)), (4, .int (nI i)), (3, .ref ou), (2, .ref mo), (1, .ref co), (0, .ref b)]) hx hb d_Law_law_331 hl (by decide) rfl (fun ls hl => ?_)
  refine lv_aload_n hx hb d_Law_law_333 rfl (lv_at hl 3 rfl) ?_
  refine lv_aload_n hx hb d_Law_law_334 rfl (lv_at hl 5 rfl) ?_
  refine lv_iload hx hb d_Law_law_335 (lv_at hl 1 rfl) ?_
  refine lv_iconst (v := 1) hx hb d_Law_law_337 (by decide) ?_
  refine lv_iadd hx hb d_Law_law_338 ?_
  refine q_topi (z := nI (i + 1)) (nI_add i 1) ?_
  refine law_sld (k := i + 1) S hX hbl hw (by omega) (by omega) d_Law_law_339 ?_
  obtain ⟨fr2, hmo2⟩ := (hR).mo
  refine q_cg (q_runV (As := [.int (xs (i + 1))]) (rest := []) S (Cg.back hQ (fun z => z.len) ((ou, lo ti f) :: wc)) (cw_v hts tb_5_164 k_Mod_run rfl rfl ⟨by decide, by decide⟩) hw ((wc).length + 1) (at_mo hmo2) rfl rfl hl.1 rfl (Nat.le_of_ble_eq_true rfl) d_Law_law_340 hroom) hw (fun z hD => z.backf hD) (fun zR2 H locs _ hw => ?_)
  have hR2 := zR2.2.1
  refine W.eq (g2 := F0 m9 343 ls [.int (0 : Int32)]) rfl ?_
  have hw : Lv _ _ _ _ _ ((ou, lo ti f) :: (wc ++ zR2.1)) _ _ _ := hw
  refine lv_istore (lv' := [(6, .int (0 : Int32)), (5, .int (2 : Int32)), (4, .int (nI i)), (3, .ref ou), (2, .ref mo), (1, .ref co), (0, .ref b)]) hx hb d_Law_law_343 hl (by decide) rfl (fun ls hl => ?_)
  refine lv_aload_n hx hb d_Law_law_345 rfl (lv_at hl 4 rfl) ?_
  obtain ⟨fr3, hmo3⟩ := (hR2).mo
  refine q_cg (q_runV (As := []) (rest := []) S (Cg.back (rk_thrown l D hR2) (fun z => z.len) ((ou, lo ti f) :: wc)) (cw_v hts tb_5_102 k_Mod_thrown rfl rfl ⟨by decide, by decide⟩) hw ((wc).length + 1) (at_mo hmo3) rfl rfl hl.1 rfl (Nat.le_of_ble_eq_true rfl) d_Law_law_346 hroom) hw (fun z hD => z.backf hD) (fun zR3 H locs _ hw => ?_)
  have hR3 := zR3.2.1
  refine W.eq (g2 := F0 m9 349 ls [.int (2 : Int32)]) rfl ?_
  have hw : Lv _ _ _ _ _ ((ou, lo ti f) :: (wc ++ zR3.1)) _ _ _ := hw
  refine lv_iload hx hb d_Law_law_349 (lv_at hl 1 rfl) ?_
  refine lv_icmp_eq hx hb d_Law_law_351 rfl (fun _ => ?_) (fun h => absurd h (by decide))
  refine lv_iload hx hb d_Law_law_356 (lv_at hl 1 rfl) ?_
  refine lv_if_ne hx hb d_Law_law_358 rfl (fun _ => ?_) (fun h => absurd h (by decide))
  refine lv_goto hx hb d_Law_law_373 rfl ?_
  exact J _ _ _ _ _ _ _ _ _ _ hK hR3 hm hw (lv_sub (l' := [(4, .int (nI i)), (3, .ref ou), (2, .ref mo), (1, .ref co), (0, .ref b)]) hl [2, 3, 4, 5, 6] rfl)
set_option maxHeartbeats 4000000 in
set_option maxRecDepth 100000 in
theorem L_told_g {p9 : Program} {l : Launch} {e9 : Env} {s9 : State} {m9 : MethodId} {b9 : List Frame} {me9 : Method} {c9 : Code} {b L : Nat} {xs : Nat → Int32} {D : va_G} {ti : Nat → ClassId} {co mo ou i cells slots : Nat} {Q9 : State → Prop} {H : Heap} {locs : List Loc} {ls : Array Slot} {wc wr : va_W} {f : Nat → Int64} {σ : KS} {st : Int32} {m0 : Nat} {th : Int32}
    (S : CallFix p9 m9 c9 code 7 s9 #[Value.ref b] TB "CheriCoreLaw") (hX : va_X b L xs s9 s9.heap) (hbl : b < s9.heap.size) (hN : NW s9) (hZ : ZA s9) (hL : L ≤ 2560) (hi : i + 5 ≤ L) (hroom : cells + 1 ≤ 601024 ∧ slots + 6 ≤ 7293034) (hK : KI ti co σ st m0 wc) (hR : RI ti mo σ st m0 th wr) (hm : m0 ≤ 8) (hw : Lv D clz (ty4 ti) (AL s9) s9.heap ((ou, lo ti f) :: (wc ++ wr)) s9 H locs) (hl : lv_has ls 7 [(4, .int (nI i)), (3, .ref ou), (2, .ref mo), (1, .ref co), (0, .ref b)])
    (σ1 : KS) (st1 : Int32) (m1 : Nat) (hm1 : m1 ≤ 8) (v : Int32) (hM : CK l y_Cor_told (wl y_Cor_told b_Cor_told 4 (some .int)) (rmL 2) D ti [.ref co, .int (xs (i + 1)), .int (xs (i + 2))] wc (KI ti co σ1 st1 m1) (some (.int v))) (hQ : CK l y_Mod_told (wl y_Mod_told b_Mod_told 5 (some .int)) (rmL 4) D ti [.ref mo, .int (xs (i + 1)), .int (xs (i + 2))] wr (RI ti mo σ1 st1 m1 0) (some (.int v))) (J : LJ p9 l e9 s9 m9 b9 me9 c9 b D ti co mo ou i (cells + 1) (slots + 6) Q9 811) : W p9 l e9 room_1 s9 m9 #[Value.ref b] b9 me9 c9 H locs cells slots Q9 (F0 m9 376 ls []) := by
  obtain ⟨hx, hb, hml, hown, hts⟩ := id S
  refine W.widen (k := cells + 1) (n := slots + 6) (by omega) (by omega) ?_
  refine lv_aload_n hx hb d_Law_law_376 rfl (lv_at hl 3 rfl) ?_
  refine lv_aload_n hx hb d_Law_law_377 rfl (lv_at hl 4 rfl) ?_
  refine lv_iload hx hb d_Law_law_378 (lv_at hl 0 rfl) ?_
  refine lv_iconst (v := 1) hx hb d_Law_law_380 (by decide) ?_
  refine lv_iadd hx hb d_Law_law_381 ?_
  refine q_topi (z := nI (i + 1)) (nI_add i 1) ?_
  refine law_sld (k := i + 1) S hX hbl hw (by omega) (by omega) d_Law_law_382 ?_
  refine lv_aload_n hx hb d_Law_law_383 rfl (lv_at hl 4 rfl) ?_
  refine lv_iload hx hb d_Law_law_384 (lv_at hl 0 rfl) ?_
  refine lv_iconst (v := 2) hx hb d_Law_law_386 (by decide) ?_
  refine lv_iadd hx hb d_Law_law_387 ?_
  refine q_topi (z := nI (i + 2)) (nI_add i 2) ?_
  refine law_sld (k := i + 2) S hX hbl hw (by omega) (by omega) d_Law_law_388 ?_
  refine lv_aload_n hx hb d_Law_law_389 rfl (lv_at hl 1 rfl) ?_
  refine q_cg (q_runSW (As := [.ref co, .int (xs (i + 1)), .int (xs (i + 2)), .ref ou]) (rest := []) S (Cg.front (g_Law_told l D ti co ou f wc _ _ _ v (hK).co hM) (fun z => congrArg (· + 1) z.len) wr) k_Law_told tb_4_229 rfl rfl ⟨by decide, by decide⟩ ⟨Pr.blind, hw.pre⟩ rfl hl.1 rfl (Nat.le_of_ble_eq_true rfl) d_Law_law_390 hroom) hw (fun z hD => z.consf hD) (fun zK H locs _ hw => ?_)
  have hK1 := zK.2.1
  refine W.eq (g2 := F0 m9 393 ls [.int (0 : Int32)]) rfl ?_
  have hw : Lv _ _ _ _ _ ((ou, lo ti (vp_updL f 0 v.toInt64)) :: (zK.1 ++ wr)) _ _ _ := hw
  refine lv_istore (lv' := [(5, .int (0 : Int32)), (4, .int (nI i)), (3, .ref ou), (2, .ref mo), (1, .ref co), (0, .ref b)]) hx hb d_Law_law_393 hl (by decide) rfl (fun ls hl => ?_)
  refine lv_aload_n hx hb d_Law_law_395 rfl (lv_at hl 3 rfl) ?_
  refine lv_aload_n hx hb d_Law_law_396 rfl (lv_at hl 5 rfl) ?_
  refine lv_iload hx hb d_Law_law_397 (lv_at hl 1 rfl) ?_
  refine lv_iconst (v := 1) hx hb d_Law_law_399 (by decide) ?_
  refine lv_iadd hx hb d_Law_law_400 ?_
  refine q_topi (z := nI (i + 1)) (nI_add i 1) ?_
  refine law_sld (k := i + 1) S hX hbl hw (by omega) (by omega) d_Law_law_401 ?_
  refine lv_aload_n hx hb d_Law_law_402 rfl (lv_at hl 5 rfl) ?_
  refine lv_iload hx hb d_Law_law_403 (lv_at hl 1 rfl) ?_
  refine lv_iconst (v := 2) hx hb d_Law_law_405 (by decide) ?_
  refine lv_iadd hx hb d_Law_law_406 ?_
  refine q_topi (z := nI (i + 2)) (nI_add i 2) ?_
  refine law_sld (k := i + 2) S hX hbl hw (by omega) (by omega) d_Law_law_407 ?_
  obtain ⟨fr2, hmo2⟩ := (hR).mo
  refine q_cg (q_runV (As := [.int (xs (i + 1)), .int (xs (i + 2))]) (rest := []) S (Cg.back hQ (fun z => z.len) ((ou, lo ti (vp_updL f 0 v.toInt64)) :: zK.1)) (cw_v hts tb_6_61 k_Mod_told rfl rfl ⟨by decide, by decide⟩) hw ((zK.1).length + 1) (at_mo hmo2) rfl rfl hl.1 rfl (Nat.le_of_ble_eq_true rfl) d_Law_law_408 hroom) hw (fun z hD => z.backf hD) (fun zR2 H locs _ hw => ?_)
  have hR2 := zR2.2.1
  refine W.eq (g2 := F0 m9 411 ls [.int v]) rfl ?_
  have hw : Lv _ _ _ _ _ ((ou, lo ti (vp_updL f 0 v.toInt64)) :: (zK.1 ++ zR2.1)) _ _ _ := hw
  refine lv_istore (lv' := [(6, .int v), (5, .int (0 : Int32)), (4, .int (nI i)), (3, .ref ou), (2, .ref mo), (1, .ref co), (0, .ref b)]) hx hb d_Law_law_411 hl (by decide) rfl (fun ls hl => ?_)
  refine lv_aload_n hx hb d_Law_law_413 rfl (lv_at hl 4 rfl) ?_
  obtain ⟨fr3, hmo3⟩ := (hR2).mo
  refine q_cg (q_runV (As := []) (rest := []) S (Cg.back (rk_thrown l D hR2) (fun z => z.len) ((ou, lo ti (vp_updL f 0 v.toInt64)) :: zK.1)) (cw_v hts tb_5_102 k_Mod_thrown rfl rfl ⟨by decide, by decide⟩) hw ((zK.1).length + 1) (at_mo hmo3) rfl rfl hl.1 rfl (Nat.le_of_ble_eq_true rfl) d_Law_law_414 hroom) hw (fun z hD => z.backf hD) (fun zR3 H locs _ hw => ?_)
  have hR3 := zR3.2.1
  refine W.eq (g2 := F0 m9 417 ls [.int (0 : Int32)]) rfl ?_
  have hw : Lv _ _ _ _ _ ((ou, lo ti (vp_updL f 0 v.toInt64)) :: (zK.1 ++ zR3.1)) _ _ _ := hw
  refine lv_iload hx hb d_Law_law_417 (lv_at hl 1 rfl) ?_
  refine lv_icmp_eq hx hb d_Law_law_419 rfl (fun _ => ?_) (fun h => absurd h (by decide))
  refine lv_iload hx hb d_Law_law_424 (lv_at hl 1 rfl) ?_
  refine lv_if_ne hx hb d_Law_law_426 rfl (fun h => absurd h (by decide)) (fun _ => ?_)
  refine lv_aload_n hx hb d_Law_law_429 rfl (lv_at hl 3 rfl) ?_
  refine lv_iconst (v := 0) hx hb d_Law_law_430 (by decide) ?_
  refine q_laldN (k := 0) S hw 0 2 rfl rfl (by decide) (by decide) d_Law_law_431 ?_
  refine q_topl (z := v.toInt64) (upd_0 _ _) ?_
  refine lv_iload hx hb d_Law_law_432 (lv_at hl 0 rfl) ?_
  refine lv_i2l (v := (v.toInt64)) hx hb d_Law_law_434 rfl ?_
  refine q_lc_eq S d_Law_law_435 d_Law_law_436 rfl (fun _ => ?_) (fun h => absurd (rfl) h)
  refine lv_goto hx hb d_Law_law_441 rfl ?_
  exact J _ _ _ _ _ _ _ _ _ _ hK1 hR3 hm1 hw (lv_sub (l' := [(4, .int (nI i)), (3, .ref ou), (2, .ref mo), (1, .ref co), (0, .ref b)]) hl [2, 3, 4, 5, 6] rfl)
set_option maxHeartbeats 4000000 in
set_option maxRecDepth 100000 in
theorem L_told_xX {p9 : Program} {l : Launch} {e9 : Env} {s9 : State} {m9 : MethodId} {b9 : List Frame} {me9 : Method} {c9 : Code} {b L : Nat} {xs : Nat → Int32} {D : va_G} {ti : Nat → ClassId} {co mo ou i cells slots : Nat} {Q9 : State → Prop} {H : Heap} {locs : List Loc} {ls : Array Slot} {wc wr : va_W} {f : Nat → Int64} {σ : KS} {st : Int32} {m0 : Nat} {th : Int32}
    (S : CallFix p9 m9 c9 code 7 s9 #[Value.ref b] TB "CheriCoreLaw") (hX : va_X b L xs s9 s9.heap) (hbl : b < s9.heap.size) (hN : NW s9) (hZ : ZA s9) (hL : L ≤ 2560) (hi : i + 5 ≤ L) (hroom : cells + 1 ≤ 601024 ∧ slots + 6 ≤ 7293034) (hK : KI ti co σ st m0 wc) (hR : RI ti mo σ st m0 th wr) (hm : m0 ≤ 8) (hw : Lv D clz (ty4 ti) (AL s9) s9.heap ((ou, lo ti f) :: (wc ++ wr)) s9 H locs) (hl : lv_has ls 7 [(4, .int (nI i)), (3, .ref ou), (2, .ref mo), (1, .ref co), (0, .ref b)])
    (hM : CT1 l y_Cor_told (wl y_Cor_told b_Cor_told 4 (some .int)) D ti [.ref co, .int (xs (i + 1)), .int (xs (i + 2))] wc 58 X1 85 "no such register") (hQ : CK l y_Mod_told (wl y_Mod_told b_Mod_told 5 (some .int)) (rmL 4) D ti [.ref mo, .int (xs (i + 1)), .int (xs (i + 2))] wr (RI ti mo σ st m0 1) (some (.int 0))) (J : LJ p9 l e9 s9 m9 b9 me9 c9 b D ti co mo ou i (cells + 1) (slots + 6) Q9 811) : W p9 l e9 room_1 s9 m9 #[Value.ref b] b9 me9 c9 H locs cells slots Q9 (F0 m9 376 ls []) := by
  obtain ⟨hx, hb, hml, hown, hts⟩ := id S
  refine lv_aload_n hx hb d_Law_law_376 rfl (lv_at hl 3 rfl) ?_
  refine lv_aload_n hx hb d_Law_law_377 rfl (lv_at hl 4 rfl) ?_
  refine lv_iload hx hb d_Law_law_378 (lv_at hl 0 rfl) ?_
  refine lv_iconst (v := 1) hx hb d_Law_law_380 (by decide) ?_
  refine lv_iadd hx hb d_Law_law_381 ?_
  refine q_topi (z := nI (i + 1)) (nI_add i 1) ?_
  refine law_sld (k := i + 1) S hX hbl hw (by omega) (by omega) d_Law_law_382 ?_
  refine lv_aload_n hx hb d_Law_law_383 rfl (lv_at hl 4 rfl) ?_
  refine lv_iload hx hb d_Law_law_384 (lv_at hl 0 rfl) ?_
  refine lv_iconst (v := 2) hx hb d_Law_law_386 (by decide) ?_
  refine lv_iadd hx hb d_Law_law_387 ?_
  refine q_topi (z := nI (i + 2)) (nI_add i 2) ?_
  refine law_sld (k := i + 2) S hX hbl hw (by omega) (by omega) d_Law_law_388 ?_
  refine lv_aload_n hx hb d_Law_law_389 rfl (lv_at hl 1 rfl) ?_
  refine q_cx (q_runSW (As := [.ref co, .int (xs (i + 1)), .int (xs (i + 2)), .ref ou]) (rest := []) S (x_Law_toldX l D ti co ou f wc _ _ (hK).co hM) k_Law_told tb_4_229 rfl rfl ⟨by decide, by decide⟩ (Lv.preX (ws := (ou, lo ti f) :: wc) (Y := wr) hw hN (fun U hU hW => hZ.moved hW (fun q hq => by rw [hU]; exact hw.2.2.2.2.1 q hq (Nat.not_le.mpr hq)))) rfl hl.1 rfl (Nat.le_of_ble_eq_true rfl) d_Law_law_390 hroom) hw (fun H hw => ?_)
  refine W.eq (g2 := F0 m9 393 ls [.int (1 : Int32)]) rfl ?_
  have hw : Lv _ _ _ _ _ ((ou, lo ti f) :: (wc ++ wr)) _ _ _ := hw
  refine lv_istore (lv' := [(5, .int (1 : Int32)), (4, .int (nI i)), (3, .ref ou), (2, .ref mo), (1, .ref co), (0, .ref b)]) hx hb d_Law_law_393 hl (by decide) rfl (fun ls hl => ?_)
  refine lv_aload_n hx hb d_Law_law_395 rfl (lv_at hl 3 rfl) ?_
  refine lv_aload_n hx hb d_Law_law_396 rfl (lv_at hl 5 rfl) ?_
  refine lv_iload hx hb d_Law_law_397 (lv_at hl 1 rfl) ?_
  refine lv_iconst (v := 1) hx hb d_Law_law_399 (by decide) ?_
  refine lv_iadd hx hb d_Law_law_400 ?_
  refine q_topi (z := nI (i + 1)) (nI_add i 1) ?_
  refine law_sld (k := i + 1) S hX hbl hw (by omega) (by omega) d_Law_law_401 ?_
  refine lv_aload_n hx hb d_Law_law_402 rfl (lv_at hl 5 rfl) ?_
  refine lv_iload hx hb d_Law_law_403 (lv_at hl 1 rfl) ?_
  refine lv_iconst (v := 2) hx hb d_Law_law_405 (by decide) ?_
  refine lv_iadd hx hb d_Law_law_406 ?_
  refine q_topi (z := nI (i + 2)) (nI_add i 2) ?_
  refine law_sld (k := i + 2) S hX hbl hw (by omega) (by omega) d_Law_law_407 ?_
  obtain ⟨fr2, hmo2⟩ := (hR).mo
  refine q_cg (q_runV (As := [.int (xs (i + 1)), .int (xs (i + 2))]) (rest := []) S (Cg.back hQ (fun z => z.len) ((ou, lo ti f) :: wc)) (cw_v hts tb_6_61 k_Mod_told rfl rfl ⟨by decide, by decide⟩) hw ((wc).length + 1) (at_mo hmo2) rfl rfl hl.1 rfl (Nat.le_of_ble_eq_true rfl) d_Law_law_408 hroom) hw (fun z hD => z.backf hD) (fun zR2 H locs _ hw => ?_)
  have hR2 := zR2.2.1
  refine W.eq (g2 := F0 m9 411 ls [.int (0 : Int32)]) rfl ?_
  have hw : Lv _ _ _ _ _ ((ou, lo ti f) :: (wc ++ zR2.1)) _ _ _ := hw
  refine lv_istore (lv' := [(6, .int (0 : Int32)), (5, .int (1 : Int32)), (4, .int (nI i)), (3, .ref ou), (2, .ref mo), (1, .ref co), (0, .ref b)]) hx hb d_Law_law_411 hl (by decide) rfl (fun ls hl => ?_)
  refine lv_aload_n hx hb d_Law_law_413 rfl (lv_at hl 4 rfl) ?_
  obtain ⟨fr3, hmo3⟩ := (hR2).mo
  refine q_cg (q_runV (As := []) (rest := []) S (Cg.back (rk_thrown l D hR2) (fun z => z.len) ((ou, lo ti f) :: wc)) (cw_v hts tb_5_102 k_Mod_thrown rfl rfl ⟨by decide, by decide⟩) hw ((wc).length + 1) (at_mo hmo3) rfl rfl hl.1 rfl (Nat.le_of_ble_eq_true rfl) d_Law_law_414 hroom) hw (fun z hD => z.backf hD) (fun zR3 H locs _ hw => ?_)
  have hR3 := zR3.2.1
  refine W.eq (g2 := F0 m9 417 ls [.int (1 : Int32)]) rfl ?_
  have hw : Lv _ _ _ _ _ ((ou, lo ti f) :: (wc ++ zR3.1)) _ _ _ := hw
  refine lv_iload hx hb d_Law_law_417 (lv_at hl 1 rfl) ?_
  refine lv_icmp_eq hx hb d_Law_law_419 rfl (fun _ => ?_) (fun h => absurd h (by decide))
  refine lv_iload hx hb d_Law_law_424 (lv_at hl 1 rfl) ?_
  refine lv_if_ne hx hb d_Law_law_426 rfl (fun _ => ?_) (fun h => absurd h (by decide))
  refine lv_goto hx hb d_Law_law_441 rfl ?_
  exact J _ _ _ _ _ _ _ _ _ _ hK hR3 hm hw (lv_sub (l' := [(4, .int (nI i)), (3, .ref ou), (2, .ref mo), (1, .ref co), (0, .ref b)]) hl [2, 3, 4, 5, 6] rfl)
set_option maxHeartbeats 4000000 in
set_option maxRecDepth 100000 in
theorem L_told_xY {p9 : Program} {l : Launch} {e9 : Env} {s9 : State} {m9 : MethodId} {b9 : List Frame} {me9 : Method} {c9 : Code} {b L : Nat} {xs : Nat → Int32} {D : va_G} {ti : Nat → ClassId} {co mo ou i cells slots : Nat} {Q9 : State → Prop} {H : Heap} {locs : List Loc} {ls : Array Slot} {wc wr : va_W} {f : Nat → Int64} {σ : KS} {st : Int32} {m0 : Nat} {th : Int32}
    (S : CallFix p9 m9 c9 code 7 s9 #[Value.ref b] TB "CheriCoreLaw") (hX : va_X b L xs s9 s9.heap) (hbl : b < s9.heap.size) (hN : NW s9) (hZ : ZA s9) (hL : L ≤ 2560) (hi : i + 5 ≤ L) (hroom : cells + 1 ≤ 601024 ∧ slots + 6 ≤ 7293034) (hK : KI ti co σ st m0 wc) (hR : RI ti mo σ st m0 th wr) (hm : m0 ≤ 8) (hw : Lv D clz (ty4 ti) (AL s9) s9.heap ((ou, lo ti f) :: (wc ++ wr)) s9 H locs) (hl : lv_has ls 7 [(4, .int (nI i)), (3, .ref ou), (2, .ref mo), (1, .ref co), (0, .ref b)])
    (hM : CT1 l y_Cor_told (wl y_Cor_told b_Cor_told 4 (some .int)) D ti [.ref co, .int (xs (i + 1)), .int (xs (i + 2))] wc 95 X2 161 "nothing of that number is told") (hQ : CK l y_Mod_told (wl y_Mod_told b_Mod_told 5 (some .int)) (rmL 4) D ti [.ref mo, .int (xs (i + 1)), .int (xs (i + 2))] wr (RI ti mo σ st m0 2) (some (.int 0))) (J : LJ p9 l e9 s9 m9 b9 me9 c9 b D ti co mo ou i (cells + 1) (slots + 6) Q9 811) : W p9 l e9 room_1 s9 m9 #[Value.ref b] b9 me9 c9 H locs cells slots Q9 (F0 m9 376 ls []) := by
  obtain ⟨hx, hb, hml, hown, hts⟩ := id S
  refine lv_aload_n hx hb d_Law_law_376 rfl (lv_at hl 3 rfl) ?_
  refine lv_aload_n hx hb d_Law_law_377 rfl (lv_at hl 4 rfl) ?_
  refine lv_iload hx hb d_Law_law_378 (lv_at hl 0 rfl) ?_
  refine lv_iconst (v := 1) hx hb d_Law_law_380 (by decide) ?_
  refine lv_iadd hx hb d_Law_law_381 ?_
  refine q_topi (z := nI (i + 1)) (nI_add i 1) ?_
  refine law_sld (k := i + 1) S hX hbl hw (by omega) (by omega) d_Law_law_382 ?_
  refine lv_aload_n hx hb d_Law_law_383 rfl (lv_at hl 4 rfl) ?_
  refine lv_iload hx hb d_Law_law_384 (lv_at hl 0 rfl) ?_
  refine lv_iconst (v := 2) hx hb d_Law_law_386 (by decide) ?_
  refine lv_iadd hx hb d_Law_law_387 ?_
  refine q_topi (z := nI (i + 2)) (nI_add i 2) ?_
  refine law_sld (k := i + 2) S hX hbl hw (by omega) (by omega) d_Law_law_388 ?_
  refine lv_aload_n hx hb d_Law_law_389 rfl (lv_at hl 1 rfl) ?_
  refine q_cx (q_runSW (As := [.ref co, .int (xs (i + 1)), .int (xs (i + 2)), .ref ou]) (rest := []) S (x_Law_toldY l D ti co ou f wc _ _ (hK).co hM) k_Law_told tb_4_229 rfl rfl ⟨by decide, by decide⟩ (Lv.preX (ws := (ou, lo ti f) :: wc) (Y := wr) hw hN (fun U hU hW => hZ.moved hW (fun q hq => by rw [hU]; exact hw.2.2.2.2.1 q hq (Nat.not_le.mpr hq)))) rfl hl.1 rfl (Nat.le_of_ble_eq_true rfl) d_Law_law_390 hroom) hw (fun H hw => ?_)
  refine W.eq (g2 := F0 m9 393 ls [.int (2 : Int32)]) rfl ?_
  have hw : Lv _ _ _ _ _ ((ou, lo ti f) :: (wc ++ wr)) _ _ _ := hw
  refine lv_istore (lv' := [(5, .int (2 : Int32)), (4, .int (nI i)), (3, .ref ou), (2, .ref mo), (1, .ref co), (0, .ref b)]) hx hb d_Law_law_393 hl (by decide) rfl (fun ls hl => ?_)
  refine lv_aload_n hx hb d_Law_law_395 rfl (lv_at hl 3 rfl) ?_
  refine lv_aload_n hx hb d_Law_law_396 rfl (lv_at hl 5 rfl) ?_
  refine lv_iload hx hb d_Law_law_397 (lv_at hl 1 rfl) ?_
  refine lv_iconst (v := 1) hx hb d_Law_law_399 (by decide) ?_
  refine lv_iadd hx hb d_Law_law_400 ?_
  refine q_topi (z := nI (i + 1)) (nI_add i 1) ?_
  refine law_sld (k := i + 1) S hX hbl hw (by omega) (by omega) d_Law_law_401 ?_
  refine lv_aload_n hx hb d_Law_law_402 rfl (lv_at hl 5 rfl) ?_
  refine lv_iload hx hb d_Law_law_403 (lv_at hl 1 rfl) ?_
  refine lv_iconst (v := 2) hx hb d_Law_law_405 (by decide) ?_
  refine lv_iadd hx hb d_Law_law_406 ?_
  refine q_topi (z := nI (i + 2)) (nI_add i 2) ?_
  refine law_sld (k := i + 2) S hX hbl hw (by omega) (by omega) d_Law_law_407 ?_
  obtain ⟨fr2, hmo2⟩ := (hR).mo
  refine q_cg (q_runV (As := [.int (xs (i + 1)), .int (xs (i + 2))]) (rest := []) S (Cg.back hQ (fun z => z.len) ((ou, lo ti f) :: wc)) (cw_v hts tb_6_61 k_Mod_told rfl rfl ⟨by decide, by decide⟩) hw ((wc).length + 1) (at_mo hmo2) rfl rfl hl.1 rfl (Nat.le_of_ble_eq_true rfl) d_Law_law_408 hroom) hw (fun z hD => z.backf hD) (fun zR2 H locs _ hw => ?_)
  have hR2 := zR2.2.1
  refine W.eq (g2 := F0 m9 411 ls [.int (0 : Int32)]) rfl ?_
  have hw : Lv _ _ _ _ _ ((ou, lo ti f) :: (wc ++ zR2.1)) _ _ _ := hw
  refine lv_istore (lv' := [(6, .int (0 : Int32)), (5, .int (2 : Int32)), (4, .int (nI i)), (3, .ref ou), (2, .ref mo), (1, .ref co), (0, .ref b)]) hx hb d_Law_law_411 hl (by decide) rfl (fun ls hl => ?_)
  refine lv_aload_n hx hb d_Law_law_413 rfl (lv_at hl 4 rfl) ?_
  obtain ⟨fr3, hmo3⟩ := (hR2).mo
  refine q_cg (q_runV (As := []) (rest := []) S (Cg.back (rk_thrown l D hR2) (fun z => z.len) ((ou, lo ti f) :: wc)) (cw_v hts tb_5_102 k_Mod_thrown rfl rfl ⟨by decide, by decide⟩) hw ((wc).length + 1) (at_mo hmo3) rfl rfl hl.1 rfl (Nat.le_of_ble_eq_true rfl) d_Law_law_414 hroom) hw (fun z hD => z.backf hD) (fun zR3 H locs _ hw => ?_)
  have hR3 := zR3.2.1
  refine W.eq (g2 := F0 m9 417 ls [.int (2 : Int32)]) rfl ?_
  have hw : Lv _ _ _ _ _ ((ou, lo ti f) :: (wc ++ zR3.1)) _ _ _ := hw
  refine lv_iload hx hb d_Law_law_417 (lv_at hl 1 rfl) ?_
  refine lv_icmp_eq hx hb d_Law_law_419 rfl (fun _ => ?_) (fun h => absurd h (by decide))
  refine lv_iload hx hb d_Law_law_424 (lv_at hl 1 rfl) ?_
  refine lv_if_ne hx hb d_Law_law_426 rfl (fun _ => ?_) (fun h => absurd h (by decide))
  refine lv_goto hx hb d_Law_law_441 rfl ?_
  exact J _ _ _ _ _ _ _ _ _ _ hK hR3 hm hw (lv_sub (l' := [(4, .int (nI i)), (3, .ref ou), (2, .ref mo), (1, .ref co), (0, .ref b)]) hl [2, 3, 4, 5, 6] rfl)
set_option maxHeartbeats 4000000 in
set_option maxRecDepth 100000 in
theorem L_memory_g {p9 : Program} {l : Launch} {e9 : Env} {s9 : State} {m9 : MethodId} {b9 : List Frame} {me9 : Method} {c9 : Code} {b L : Nat} {xs : Nat → Int32} {D : va_G} {ti : Nat → ClassId} {co mo ou i cells slots : Nat} {Q9 : State → Prop} {H : Heap} {locs : List Loc} {ls : Array Slot} {wc wr : va_W} {f : Nat → Int64} {σ : KS} {st : Int32} {m0 : Nat} {th : Int32}
    (S : CallFix p9 m9 c9 code 7 s9 #[Value.ref b] TB "CheriCoreLaw") (hX : va_X b L xs s9 s9.heap) (hbl : b < s9.heap.size) (hN : NW s9) (hZ : ZA s9) (hL : L ≤ 2560) (hi : i + 5 ≤ L) (hroom : cells + 1 ≤ 601024 ∧ slots + 6 ≤ 7293034) (hK : KI ti co σ st m0 wc) (hR : RI ti mo σ st m0 th wr) (hm : m0 ≤ 8) (hw : Lv D clz (ty4 ti) (AL s9) s9.heap ((ou, lo ti f) :: (wc ++ wr)) s9 H locs) (hl : lv_has ls 7 [(4, .int (nI i)), (3, .ref ou), (2, .ref mo), (1, .ref co), (0, .ref b)])
    (σ1 : KS) (st1 : Int32) (m1 : Nat) (hm1 : m1 ≤ 8) (v : Int32) (hM : CK l y_Cor_memory (wl y_Cor_memory b_Cor_memory 2 (some .int)) (rmL 3) D ti [.ref co, .int (xs (i + 1))] wc (KI ti co σ1 st1 m1) (some (.int v))) (hQ : CK l y_Mod_memory (wl y_Mod_memory b_Mod_memory 2 (some .int)) (rmL 1) D ti [.ref mo, .int (xs (i + 1))] wr (RI ti mo σ1 st1 m1 0) (some (.int v))) (J : LJ p9 l e9 s9 m9 b9 me9 c9 b D ti co mo ou i (cells + 1) (slots + 6) Q9 811) : W p9 l e9 room_1 s9 m9 #[Value.ref b] b9 me9 c9 H locs cells slots Q9 (F0 m9 444 ls []) := by
  obtain ⟨hx, hb, hml, hown, hts⟩ := id S
  refine W.widen (k := cells + 1) (n := slots + 6) (by omega) (by omega) ?_
  refine lv_aload_n hx hb d_Law_law_444 rfl (lv_at hl 3 rfl) ?_
  refine lv_aload_n hx hb d_Law_law_445 rfl (lv_at hl 4 rfl) ?_
  refine lv_iload hx hb d_Law_law_446 (lv_at hl 0 rfl) ?_
  refine lv_iconst (v := 1) hx hb d_Law_law_448 (by decide) ?_
  refine lv_iadd hx hb d_Law_law_449 ?_
  refine q_topi (z := nI (i + 1)) (nI_add i 1) ?_
  refine law_sld (k := i + 1) S hX hbl hw (by omega) (by omega) d_Law_law_450 ?_
  refine lv_aload_n hx hb d_Law_law_451 rfl (lv_at hl 1 rfl) ?_
  refine q_cg (q_runSW (As := [.ref co, .int (xs (i + 1)), .ref ou]) (rest := []) S (Cg.front (g_Law_memory l D ti co ou f wc _ _ v (hK).co hM) (fun z => congrArg (· + 1) z.len) wr) k_Law_memory tb_5_1 rfl rfl ⟨by decide, by decide⟩ ⟨Pr.blind, hw.pre⟩ rfl hl.1 rfl (Nat.le_of_ble_eq_true rfl) d_Law_law_452 hroom) hw (fun z hD => z.consf hD) (fun zK H locs _ hw => ?_)
  have hK1 := zK.2.1
  refine W.eq (g2 := F0 m9 455 ls [.int (0 : Int32)]) rfl ?_
  have hw : Lv _ _ _ _ _ ((ou, lo ti (vp_updL f 0 v.toInt64)) :: (zK.1 ++ wr)) _ _ _ := hw
  refine lv_istore (lv' := [(5, .int (0 : Int32)), (4, .int (nI i)), (3, .ref ou), (2, .ref mo), (1, .ref co), (0, .ref b)]) hx hb d_Law_law_455 hl (by decide) rfl (fun ls hl => ?_)
  refine lv_aload_n hx hb d_Law_law_457 rfl (lv_at hl 3 rfl) ?_
  refine lv_aload_n hx hb d_Law_law_458 rfl (lv_at hl 5 rfl) ?_
  refine lv_iload hx hb d_Law_law_459 (lv_at hl 1 rfl) ?_
  refine lv_iconst (v := 1) hx hb d_Law_law_461 (by decide) ?_
  refine lv_iadd hx hb d_Law_law_462 ?_
  refine q_topi (z := nI (i + 1)) (nI_add i 1) ?_
  refine law_sld (k := i + 1) S hX hbl hw (by omega) (by omega) d_Law_law_463 ?_
  obtain ⟨fr2, hmo2⟩ := (hR).mo
  refine q_cg (q_runV (As := [.int (xs (i + 1))]) (rest := []) S (Cg.back hQ (fun z => z.len) ((ou, lo ti (vp_updL f 0 v.toInt64)) :: zK.1)) (cw_v hts tb_6_65 k_Mod_memory rfl rfl ⟨by decide, by decide⟩) hw ((zK.1).length + 1) (at_mo hmo2) rfl rfl hl.1 rfl (Nat.le_of_ble_eq_true rfl) d_Law_law_464 hroom) hw (fun z hD => z.backf hD) (fun zR2 H locs _ hw => ?_)
  have hR2 := zR2.2.1
  refine W.eq (g2 := F0 m9 467 ls [.int v]) rfl ?_
  have hw : Lv _ _ _ _ _ ((ou, lo ti (vp_updL f 0 v.toInt64)) :: (zK.1 ++ zR2.1)) _ _ _ := hw
  refine lv_istore (lv' := [(6, .int v), (5, .int (0 : Int32)), (4, .int (nI i)), (3, .ref ou), (2, .ref mo), (1, .ref co), (0, .ref b)]) hx hb d_Law_law_467 hl (by decide) rfl (fun ls hl => ?_)
  refine lv_aload_n hx hb d_Law_law_469 rfl (lv_at hl 4 rfl) ?_
  obtain ⟨fr3, hmo3⟩ := (hR2).mo
  refine q_cg (q_runV (As := []) (rest := []) S (Cg.back (rk_thrown l D hR2) (fun z => z.len) ((ou, lo ti (vp_updL f 0 v.toInt64)) :: zK.1)) (cw_v hts tb_5_102 k_Mod_thrown rfl rfl ⟨by decide, by decide⟩) hw ((zK.1).length + 1) (at_mo hmo3) rfl rfl hl.1 rfl (Nat.le_of_ble_eq_true rfl) d_Law_law_470 hroom) hw (fun z hD => z.backf hD) (fun zR3 H locs _ hw => ?_)
  have hR3 := zR3.2.1
  refine W.eq (g2 := F0 m9 473 ls [.int (0 : Int32)]) rfl ?_
  have hw : Lv _ _ _ _ _ ((ou, lo ti (vp_updL f 0 v.toInt64)) :: (zK.1 ++ zR3.1)) _ _ _ := hw
  refine lv_iload hx hb d_Law_law_473 (lv_at hl 1 rfl) ?_
  refine lv_icmp_eq hx hb d_Law_law_475 rfl (fun _ => ?_) (fun h => absurd h (by decide))
  refine lv_iload hx hb d_Law_law_480 (lv_at hl 1 rfl) ?_
  refine lv_if_ne hx hb d_Law_law_482 rfl (fun h => absurd h (by decide)) (fun _ => ?_)
  refine lv_aload_n hx hb d_Law_law_485 rfl (lv_at hl 3 rfl) ?_
  refine lv_iconst (v := 0) hx hb d_Law_law_486 (by decide) ?_
  refine q_laldN (k := 0) S hw 0 2 rfl rfl (by decide) (by decide) d_Law_law_487 ?_
  refine q_topl (z := v.toInt64) (upd_0 _ _) ?_
  refine lv_iload hx hb d_Law_law_488 (lv_at hl 0 rfl) ?_
  refine lv_i2l (v := (v.toInt64)) hx hb d_Law_law_490 rfl ?_
  refine q_lc_eq S d_Law_law_491 d_Law_law_492 rfl (fun _ => ?_) (fun h => absurd (rfl) h)
  refine lv_goto hx hb d_Law_law_497 rfl ?_
  exact J _ _ _ _ _ _ _ _ _ _ hK1 hR3 hm1 hw (lv_sub (l' := [(4, .int (nI i)), (3, .ref ou), (2, .ref mo), (1, .ref co), (0, .ref b)]) hl [2, 3, 4, 5, 6] rfl)
set_option maxHeartbeats 4000000 in
set_option maxRecDepth 100000 in
theorem L_memory_x {p9 : Program} {l : Launch} {e9 : Env} {s9 : State} {m9 : MethodId} {b9 : List Frame} {me9 : Method} {c9 : Code} {b L : Nat} {xs : Nat → Int32} {D : va_G} {ti : Nat → ClassId} {co mo ou i cells slots : Nat} {Q9 : State → Prop} {H : Heap} {locs : List Loc} {ls : Array Slot} {wc wr : va_W} {f : Nat → Int64} {σ : KS} {st : Int32} {m0 : Nat} {th : Int32}
    (S : CallFix p9 m9 c9 code 7 s9 #[Value.ref b] TB "CheriCoreLaw") (hX : va_X b L xs s9 s9.heap) (hbl : b < s9.heap.size) (hN : NW s9) (hZ : ZA s9) (hL : L ≤ 2560) (hi : i + 5 ≤ L) (hroom : cells + 1 ≤ 601024 ∧ slots + 6 ≤ 7293034) (hK : KI ti co σ st m0 wc) (hR : RI ti mo σ st m0 th wr) (hm : m0 ≤ 8) (hw : Lv D clz (ty4 ti) (AL s9) s9.heap ((ou, lo ti f) :: (wc ++ wr)) s9 H locs) (hl : lv_has ls 7 [(4, .int (nI i)), (3, .ref ou), (2, .ref mo), (1, .ref co), (0, .ref b)])
    (hM : CT1 l y_Cor_memory (wl y_Cor_memory b_Cor_memory 2 (some .int)) D ti [.ref co, .int (xs (i + 1))] wc 58 X1 56 "no such word") (hQ : CK l y_Mod_memory (wl y_Mod_memory b_Mod_memory 2 (some .int)) (rmL 1) D ti [.ref mo, .int (xs (i + 1))] wr (RI ti mo σ st m0 1) (some (.int 0))) (J : LJ p9 l e9 s9 m9 b9 me9 c9 b D ti co mo ou i (cells + 1) (slots + 6) Q9 811) : W p9 l e9 room_1 s9 m9 #[Value.ref b] b9 me9 c9 H locs cells slots Q9 (F0 m9 444 ls []) := by
  obtain ⟨hx, hb, hml, hown, hts⟩ := id S
  refine lv_aload_n hx hb d_Law_law_444 rfl (lv_at hl 3 rfl) ?_
  refine lv_aload_n hx hb d_Law_law_445 rfl (lv_at hl 4 rfl) ?_
  refine lv_iload hx hb d_Law_law_446 (lv_at hl 0 rfl) ?_
  refine lv_iconst (v := 1) hx hb d_Law_law_448 (by decide) ?_
  refine lv_iadd hx hb d_Law_law_449 ?_
  refine q_topi (z := nI (i + 1)) (nI_add i 1) ?_
  refine law_sld (k := i + 1) S hX hbl hw (by omega) (by omega) d_Law_law_450 ?_
  refine lv_aload_n hx hb d_Law_law_451 rfl (lv_at hl 1 rfl) ?_
  refine q_cx (q_runSW (As := [.ref co, .int (xs (i + 1)), .ref ou]) (rest := []) S (x_Law_memory l D ti co ou f wc _ (hK).co hM) k_Law_memory tb_5_1 rfl rfl ⟨by decide, by decide⟩ (Lv.preX (ws := (ou, lo ti f) :: wc) (Y := wr) hw hN (fun U hU hW => hZ.moved hW (fun q hq => by rw [hU]; exact hw.2.2.2.2.1 q hq (Nat.not_le.mpr hq)))) rfl hl.1 rfl (Nat.le_of_ble_eq_true rfl) d_Law_law_452 hroom) hw (fun H hw => ?_)
  refine W.eq (g2 := F0 m9 455 ls [.int (1 : Int32)]) rfl ?_
  have hw : Lv _ _ _ _ _ ((ou, lo ti f) :: (wc ++ wr)) _ _ _ := hw
  refine lv_istore (lv' := [(5, .int (1 : Int32)), (4, .int (nI i)), (3, .ref ou), (2, .ref mo), (1, .ref co), (0, .ref b)]) hx hb d_Law_law_455 hl (by decide) rfl (fun ls hl => ?_)
  refine lv_aload_n hx hb d_Law_law_457 rfl (lv_at hl 3 rfl) ?_
  refine lv_aload_n hx hb d_Law_law_458 rfl (lv_at hl 5 rfl) ?_
  refine lv_iload hx hb d_Law_law_459 (lv_at hl 1 rfl) ?_
  refine lv_iconst (v := 1) hx hb d_Law_law_461 (by decide) ?_
  refine lv_iadd hx hb d_Law_law_462 ?_
  refine q_topi (z := nI (i + 1)) (nI_add i 1) ?_
  refine law_sld (k := i + 1) S hX hbl hw (by omega) (by omega) d_Law_law_463 ?_
  obtain ⟨fr2, hmo2⟩ := (hR).mo
  refine q_cg (q_runV (As := [.int (xs (i + 1))]) (rest := []) S (Cg.back hQ (fun z => z.len) ((ou, lo ti f) :: wc)) (cw_v hts tb_6_65 k_Mod_memory rfl rfl ⟨by decide, by decide⟩) hw ((wc).length + 1) (at_mo hmo2) rfl rfl hl.1 rfl (Nat.le_of_ble_eq_true rfl) d_Law_law_464 hroom) hw (fun z hD => z.backf hD) (fun zR2 H locs _ hw => ?_)
  have hR2 := zR2.2.1
  refine W.eq (g2 := F0 m9 467 ls [.int (0 : Int32)]) rfl ?_
  have hw : Lv _ _ _ _ _ ((ou, lo ti f) :: (wc ++ zR2.1)) _ _ _ := hw
  refine lv_istore (lv' := [(6, .int (0 : Int32)), (5, .int (1 : Int32)), (4, .int (nI i)), (3, .ref ou), (2, .ref mo), (1, .ref co), (0, .ref b)]) hx hb d_Law_law_467 hl (by decide) rfl (fun ls hl => ?_)
  refine lv_aload_n hx hb d_Law_law_469 rfl (lv_at hl 4 rfl) ?_
  obtain ⟨fr3, hmo3⟩ := (hR2).mo
  refine q_cg (q_runV (As := []) (rest := []) S (Cg.back (rk_thrown l D hR2) (fun z => z.len) ((ou, lo ti f) :: wc)) (cw_v hts tb_5_102 k_Mod_thrown rfl rfl ⟨by decide, by decide⟩) hw ((wc).length + 1) (at_mo hmo3) rfl rfl hl.1 rfl (Nat.le_of_ble_eq_true rfl) d_Law_law_470 hroom) hw (fun z hD => z.backf hD) (fun zR3 H locs _ hw => ?_)
  have hR3 := zR3.2.1
  refine W.eq (g2 := F0 m9 473 ls [.int (1 : Int32)]) rfl ?_
  have hw : Lv _ _ _ _ _ ((ou, lo ti f) :: (wc ++ zR3.1)) _ _ _ := hw
  refine lv_iload hx hb d_Law_law_473 (lv_at hl 1 rfl) ?_
  refine lv_icmp_eq hx hb d_Law_law_475 rfl (fun _ => ?_) (fun h => absurd h (by decide))
  refine lv_iload hx hb d_Law_law_480 (lv_at hl 1 rfl) ?_
  refine lv_if_ne hx hb d_Law_law_482 rfl (fun _ => ?_) (fun h => absurd h (by decide))
  refine lv_goto hx hb d_Law_law_497 rfl ?_
  exact J _ _ _ _ _ _ _ _ _ _ hK hR3 hm hw (lv_sub (l' := [(4, .int (nI i)), (3, .ref ou), (2, .ref mo), (1, .ref co), (0, .ref b)]) hl [2, 3, 4, 5, 6] rfl)
set_option maxHeartbeats 4000000 in
set_option maxRecDepth 100000 in
theorem L_tag_g {p9 : Program} {l : Launch} {e9 : Env} {s9 : State} {m9 : MethodId} {b9 : List Frame} {me9 : Method} {c9 : Code} {b L : Nat} {xs : Nat → Int32} {D : va_G} {ti : Nat → ClassId} {co mo ou i cells slots : Nat} {Q9 : State → Prop} {H : Heap} {locs : List Loc} {ls : Array Slot} {wc wr : va_W} {f : Nat → Int64} {σ : KS} {st : Int32} {m0 : Nat} {th : Int32}
    (S : CallFix p9 m9 c9 code 7 s9 #[Value.ref b] TB "CheriCoreLaw") (hX : va_X b L xs s9 s9.heap) (hbl : b < s9.heap.size) (hN : NW s9) (hZ : ZA s9) (hL : L ≤ 2560) (hi : i + 5 ≤ L) (hroom : cells + 1 ≤ 601024 ∧ slots + 6 ≤ 7293034) (hK : KI ti co σ st m0 wc) (hR : RI ti mo σ st m0 th wr) (hm : m0 ≤ 8) (hw : Lv D clz (ty4 ti) (AL s9) s9.heap ((ou, lo ti f) :: (wc ++ wr)) s9 H locs) (hl : lv_has ls 7 [(4, .int (nI i)), (3, .ref ou), (2, .ref mo), (1, .ref co), (0, .ref b)])
    (σ1 : KS) (st1 : Int32) (m1 : Nat) (hm1 : m1 ≤ 8) (v : Bool) (hM : CK l y_Cor_tag (wl y_Cor_tag b_Cor_tag 2 (some .boolean)) (rmL 3) D ti [.ref co, .int (xs (i + 1))] wc (KI ti co σ1 st1 m1) (some (.int (jb v)))) (hQ : CK l y_Mod_tag (wl y_Mod_tag b_Mod_tag 2 (some .boolean)) (rmL 1) D ti [.ref mo, .int (xs (i + 1))] wr (RI ti mo σ1 st1 m1 0) (some (.int (jb v)))) (J : LJ p9 l e9 s9 m9 b9 me9 c9 b D ti co mo ou i (cells + 1) (slots + 6) Q9 811) : W p9 l e9 room_1 s9 m9 #[Value.ref b] b9 me9 c9 H locs cells slots Q9 (F0 m9 500 ls []) := by
  obtain ⟨hx, hb, hml, hown, hts⟩ := id S
  refine W.widen (k := cells + 1) (n := slots + 6) (by omega) (by omega) ?_
  refine lv_aload_n hx hb d_Law_law_500 rfl (lv_at hl 3 rfl) ?_
  refine lv_aload_n hx hb d_Law_law_501 rfl (lv_at hl 4 rfl) ?_
  refine lv_iload hx hb d_Law_law_502 (lv_at hl 0 rfl) ?_
  refine lv_iconst (v := 1) hx hb d_Law_law_504 (by decide) ?_
  refine lv_iadd hx hb d_Law_law_505 ?_
  refine q_topi (z := nI (i + 1)) (nI_add i 1) ?_
  refine law_sld (k := i + 1) S hX hbl hw (by omega) (by omega) d_Law_law_506 ?_
  refine lv_aload_n hx hb d_Law_law_507 rfl (lv_at hl 1 rfl) ?_
  refine q_cg (q_runSW (As := [.ref co, .int (xs (i + 1)), .ref ou]) (rest := []) S (Cg.front (g_Law_tag l D ti co ou f wc _ _ v (hK).co hM) (fun z => congrArg (· + 1) z.len) wr) k_Law_tag tb_5_8 rfl rfl ⟨by decide, by decide⟩ ⟨Pr.blind, hw.pre⟩ rfl hl.1 rfl (Nat.le_of_ble_eq_true rfl) d_Law_law_508 hroom) hw (fun z hD => z.consf hD) (fun zK H locs _ hw => ?_)
  have hK1 := zK.2.1
  refine W.eq (g2 := F0 m9 511 ls [.int (0 : Int32)]) rfl ?_
  have hw : Lv _ _ _ _ _ ((ou, lo ti (vp_updL f 0 (lb v))) :: (zK.1 ++ wr)) _ _ _ := hw
  refine lv_istore (lv' := [(5, .int (0 : Int32)), (4, .int (nI i)), (3, .ref ou), (2, .ref mo), (1, .ref co), (0, .ref b)]) hx hb d_Law_law_511 hl (by decide) rfl (fun ls hl => ?_)
  refine lv_aload_n hx hb d_Law_law_513 rfl (lv_at hl 3 rfl) ?_
  refine lv_aload_n hx hb d_Law_law_514 rfl (lv_at hl 5 rfl) ?_
  refine lv_iload hx hb d_Law_law_515 (lv_at hl 1 rfl) ?_
  refine lv_iconst (v := 1) hx hb d_Law_law_517 (by decide) ?_
  refine lv_iadd hx hb d_Law_law_518 ?_
  refine q_topi (z := nI (i + 1)) (nI_add i 1) ?_
  refine law_sld (k := i + 1) S hX hbl hw (by omega) (by omega) d_Law_law_519 ?_
  obtain ⟨fr2, hmo2⟩ := (hR).mo
  refine q_cg (q_runV (As := [.int (xs (i + 1))]) (rest := []) S (Cg.back hQ (fun z => z.len) ((ou, lo ti (vp_updL f 0 (lb v))) :: zK.1)) (cw_v hts tb_6_69 k_Mod_tag rfl rfl ⟨by decide, by decide⟩) hw ((zK.1).length + 1) (at_mo hmo2) rfl rfl hl.1 rfl (Nat.le_of_ble_eq_true rfl) d_Law_law_520 hroom) hw (fun z hD => z.backf hD) (fun zR2 H locs _ hw => ?_)
  have hR2 := zR2.2.1
  refine W.eq (g2 := F0 m9 523 ls [.int (jb v)]) rfl ?_
  have hw : Lv _ _ _ _ _ ((ou, lo ti (vp_updL f 0 (lb v))) :: (zK.1 ++ zR2.1)) _ _ _ := hw
  refine lv_istore (lv' := [(6, .int (jb v)), (5, .int (0 : Int32)), (4, .int (nI i)), (3, .ref ou), (2, .ref mo), (1, .ref co), (0, .ref b)]) hx hb d_Law_law_523 hl (by decide) rfl (fun ls hl => ?_)
  refine lv_aload_n hx hb d_Law_law_525 rfl (lv_at hl 4 rfl) ?_
  obtain ⟨fr3, hmo3⟩ := (hR2).mo
  refine q_cg (q_runV (As := []) (rest := []) S (Cg.back (rk_thrown l D hR2) (fun z => z.len) ((ou, lo ti (vp_updL f 0 (lb v))) :: zK.1)) (cw_v hts tb_5_102 k_Mod_thrown rfl rfl ⟨by decide, by decide⟩) hw ((zK.1).length + 1) (at_mo hmo3) rfl rfl hl.1 rfl (Nat.le_of_ble_eq_true rfl) d_Law_law_526 hroom) hw (fun z hD => z.backf hD) (fun zR3 H locs _ hw => ?_)
  have hR3 := zR3.2.1
  refine W.eq (g2 := F0 m9 529 ls [.int (0 : Int32)]) rfl ?_
  have hw : Lv _ _ _ _ _ ((ou, lo ti (vp_updL f 0 (lb v))) :: (zK.1 ++ zR3.1)) _ _ _ := hw
  refine lv_iload hx hb d_Law_law_529 (lv_at hl 1 rfl) ?_
  refine lv_icmp_eq hx hb d_Law_law_531 rfl (fun _ => ?_) (fun h => absurd h (by decide))
  refine lv_iload hx hb d_Law_law_536 (lv_at hl 1 rfl) ?_
  refine lv_if_ne hx hb d_Law_law_538 rfl (fun h => absurd h (by decide)) (fun _ => ?_)
  refine lv_aload_n hx hb d_Law_law_541 rfl (lv_at hl 3 rfl) ?_
  refine lv_iconst (v := 0) hx hb d_Law_law_542 (by decide) ?_
  refine q_laldN (k := 0) S hw 0 2 rfl rfl (by decide) (by decide) d_Law_law_543 ?_
  refine q_topl (z := (lb v)) (upd_0 _ _) ?_
  refine lv_iload hx hb d_Law_law_544 (lv_at hl 0 rfl) ?_
  refine q_ifz_eq S d_Law_law_546 rfl (fun h546 => ?_) (fun h546 => ?_)
  · refine lv_lconst (v := 0) hx hb d_Law_law_553 (by decide) ?_
    refine q_lc_eq S d_Law_law_554 d_Law_law_555 rfl (fun _ => ?_) (fun h => absurd (by unfold lb; rw [h546]; rfl) h)
    refine lv_goto hx hb d_Law_law_560 rfl ?_
    exact J _ _ _ _ _ _ _ _ _ _ hK1 hR3 hm1 hw (lv_sub (l' := [(4, .int (nI i)), (3, .ref ou), (2, .ref mo), (1, .ref co), (0, .ref b)]) hl [2, 3, 4, 5, 6] rfl)
  · refine lv_lconst (v := 1) hx hb d_Law_law_549 (by decide) ?_
    refine lv_goto hx hb d_Law_law_550 rfl ?_
    refine q_lc_eq S d_Law_law_554 d_Law_law_555 rfl (fun _ => ?_) (fun h => absurd (by unfold lb; rw [h546]; rfl) h)
    refine lv_goto hx hb d_Law_law_560 rfl ?_
    exact J _ _ _ _ _ _ _ _ _ _ hK1 hR3 hm1 hw (lv_sub (l' := [(4, .int (nI i)), (3, .ref ou), (2, .ref mo), (1, .ref co), (0, .ref b)]) hl [2, 3, 4, 5, 6] rfl)
set_option maxHeartbeats 4000000 in
set_option maxRecDepth 100000 in
theorem L_tag_x {p9 : Program} {l : Launch} {e9 : Env} {s9 : State} {m9 : MethodId} {b9 : List Frame} {me9 : Method} {c9 : Code} {b L : Nat} {xs : Nat → Int32} {D : va_G} {ti : Nat → ClassId} {co mo ou i cells slots : Nat} {Q9 : State → Prop} {H : Heap} {locs : List Loc} {ls : Array Slot} {wc wr : va_W} {f : Nat → Int64} {σ : KS} {st : Int32} {m0 : Nat} {th : Int32}
    (S : CallFix p9 m9 c9 code 7 s9 #[Value.ref b] TB "CheriCoreLaw") (hX : va_X b L xs s9 s9.heap) (hbl : b < s9.heap.size) (hN : NW s9) (hZ : ZA s9) (hL : L ≤ 2560) (hi : i + 5 ≤ L) (hroom : cells + 1 ≤ 601024 ∧ slots + 6 ≤ 7293034) (hK : KI ti co σ st m0 wc) (hR : RI ti mo σ st m0 th wr) (hm : m0 ≤ 8) (hw : Lv D clz (ty4 ti) (AL s9) s9.heap ((ou, lo ti f) :: (wc ++ wr)) s9 H locs) (hl : lv_has ls 7 [(4, .int (nI i)), (3, .ref ou), (2, .ref mo), (1, .ref co), (0, .ref b)])
    (hM : CT1 l y_Cor_tag (wl y_Cor_tag b_Cor_tag 2 (some .boolean)) D ti [.ref co, .int (xs (i + 1))] wc 58 X1 56 "no such word") (hQ : CK l y_Mod_tag (wl y_Mod_tag b_Mod_tag 2 (some .boolean)) (rmL 1) D ti [.ref mo, .int (xs (i + 1))] wr (RI ti mo σ st m0 1) (some (.int (jb false)))) (J : LJ p9 l e9 s9 m9 b9 me9 c9 b D ti co mo ou i (cells + 1) (slots + 6) Q9 811) : W p9 l e9 room_1 s9 m9 #[Value.ref b] b9 me9 c9 H locs cells slots Q9 (F0 m9 500 ls []) := by
  obtain ⟨hx, hb, hml, hown, hts⟩ := id S
  refine lv_aload_n hx hb d_Law_law_500 rfl (lv_at hl 3 rfl) ?_
  refine lv_aload_n hx hb d_Law_law_501 rfl (lv_at hl 4 rfl) ?_
  refine lv_iload hx hb d_Law_law_502 (lv_at hl 0 rfl) ?_
  refine lv_iconst (v := 1) hx hb d_Law_law_504 (by decide) ?_
  refine lv_iadd hx hb d_Law_law_505 ?_
  refine q_topi (z := nI (i + 1)) (nI_add i 1) ?_
  refine law_sld (k := i + 1) S hX hbl hw (by omega) (by omega) d_Law_law_506 ?_
  refine lv_aload_n hx hb d_Law_law_507 rfl (lv_at hl 1 rfl) ?_
  refine q_cx (q_runSW (As := [.ref co, .int (xs (i + 1)), .ref ou]) (rest := []) S (x_Law_tag l D ti co ou f wc _ (hK).co hM) k_Law_tag tb_5_8 rfl rfl ⟨by decide, by decide⟩ (Lv.preX (ws := (ou, lo ti f) :: wc) (Y := wr) hw hN (fun U hU hW => hZ.moved hW (fun q hq => by rw [hU]; exact hw.2.2.2.2.1 q hq (Nat.not_le.mpr hq)))) rfl hl.1 rfl (Nat.le_of_ble_eq_true rfl) d_Law_law_508 hroom) hw (fun H hw => ?_)
  refine W.eq (g2 := F0 m9 511 ls [.int (1 : Int32)]) rfl ?_
  have hw : Lv _ _ _ _ _ ((ou, lo ti f) :: (wc ++ wr)) _ _ _ := hw
  refine lv_istore (lv' := [(5, .int (1 : Int32)), (4, .int (nI i)), (3, .ref ou), (2, .ref mo), (1, .ref co), (0, .ref b)]) hx hb d_Law_law_511 hl (by decide) rfl (fun ls hl => ?_)
  refine lv_aload_n hx hb d_Law_law_513 rfl (lv_at hl 3 rfl) ?_
  refine lv_aload_n hx hb d_Law_law_514 rfl (lv_at hl 5 rfl) ?_
  refine lv_iload hx hb d_Law_law_515 (lv_at hl 1 rfl) ?_
  refine lv_iconst (v := 1) hx hb d_Law_law_517 (by decide) ?_
  refine lv_iadd hx hb d_Law_law_518 ?_
  refine q_topi (z := nI (i + 1)) (nI_add i 1) ?_
  refine law_sld (k := i + 1) S hX hbl hw (by omega) (by omega) d_Law_law_519 ?_
  obtain ⟨fr2, hmo2⟩ := (hR).mo
  refine q_cg (q_runV (As := [.int (xs (i + 1))]) (rest := []) S (Cg.back hQ (fun z => z.len) ((ou, lo ti f) :: wc)) (cw_v hts tb_6_69 k_Mod_tag rfl rfl ⟨by decide, by decide⟩) hw ((wc).length + 1) (at_mo hmo2) rfl rfl hl.1 rfl (Nat.le_of_ble_eq_true rfl) d_Law_law_520 hroom) hw (fun z hD => z.backf hD) (fun zR2 H locs _ hw => ?_)
  have hR2 := zR2.2.1
  refine W.eq (g2 := F0 m9 523 ls [.int (jb false)]) rfl ?_
  have hw : Lv _ _ _ _ _ ((ou, lo ti f) :: (wc ++ zR2.1)) _ _ _ := hw
  refine lv_istore (lv' := [(6, .int (jb false)), (5, .int (1 : Int32)), (4, .int (nI i)), (3, .ref ou), (2, .ref mo), (1, .ref co), (0, .ref b)]) hx hb d_Law_law_523 hl (by decide) rfl (fun ls hl => ?_)
  refine lv_aload_n hx hb d_Law_law_525 rfl (lv_at hl 4 rfl) ?_
  obtain ⟨fr3, hmo3⟩ := (hR2).mo
  refine q_cg (q_runV (As := []) (rest := []) S (Cg.back (rk_thrown l D hR2) (fun z => z.len) ((ou, lo ti f) :: wc)) (cw_v hts tb_5_102 k_Mod_thrown rfl rfl ⟨by decide, by decide⟩) hw ((wc).length + 1) (at_mo hmo3) rfl rfl hl.1 rfl (Nat.le_of_ble_eq_true rfl) d_Law_law_526 hroom) hw (fun z hD => z.backf hD) (fun zR3 H locs _ hw => ?_)
  have hR3 := zR3.2.1
  refine W.eq (g2 := F0 m9 529 ls [.int (1 : Int32)]) rfl ?_
  have hw : Lv _ _ _ _ _ ((ou, lo ti f) :: (wc ++ zR3.1)) _ _ _ := hw
  refine lv_iload hx hb d_Law_law_529 (lv_at hl 1 rfl) ?_
  refine lv_icmp_eq hx hb d_Law_law_531 rfl (fun _ => ?_) (fun h => absurd h (by decide))
  refine lv_iload hx hb d_Law_law_536 (lv_at hl 1 rfl) ?_
  refine lv_if_ne hx hb d_Law_law_538 rfl (fun _ => ?_) (fun h => absurd h (by decide))
  refine lv_goto hx hb d_Law_law_560 rfl ?_
  exact J _ _ _ _ _ _ _ _ _ _ hK hR3 hm hw (lv_sub (l' := [(4, .int (nI i)), (3, .ref ou), (2, .ref mo), (1, .ref co), (0, .ref b)]) hl [2, 3, 4, 5, 6] rfl)
set_option maxHeartbeats 4000000 in
set_option maxRecDepth 100000 in
theorem L_count_g {p9 : Program} {l : Launch} {e9 : Env} {s9 : State} {m9 : MethodId} {b9 : List Frame} {me9 : Method} {c9 : Code} {b L : Nat} {xs : Nat → Int32} {D : va_G} {ti : Nat → ClassId} {co mo ou i cells slots : Nat} {Q9 : State → Prop} {H : Heap} {locs : List Loc} {ls : Array Slot} {wc wr : va_W} {f : Nat → Int64} {σ : KS} {st : Int32} {m0 : Nat} {th : Int32}
    (S : CallFix p9 m9 c9 code 7 s9 #[Value.ref b] TB "CheriCoreLaw") (hX : va_X b L xs s9 s9.heap) (hbl : b < s9.heap.size) (hN : NW s9) (hZ : ZA s9) (hL : L ≤ 2560) (hi : i + 5 ≤ L) (hroom : cells + 1 ≤ 601024 ∧ slots + 6 ≤ 7293034) (hK : KI ti co σ st m0 wc) (hR : RI ti mo σ st m0 th wr) (hm : m0 ≤ 8) (hw : Lv D clz (ty4 ti) (AL s9) s9.heap ((ou, lo ti f) :: (wc ++ wr)) s9 H locs) (hl : lv_has ls 7 [(4, .int (nI i)), (3, .ref ou), (2, .ref mo), (1, .ref co), (0, .ref b)])
    (σ1 : KS) (st1 : Int32) (m1 : Nat) (hm1 : m1 ≤ 8) (v : Int32) (hM : CK l y_Cor_count (wl y_Cor_count b_Cor_count 2 (some .int)) (rmL 3) D ti [.ref co, .int (xs (i + 1))] wc (KI ti co σ1 st1 m1) (some (.int v))) (hQ : CK l y_Mod_count (wl y_Mod_count b_Mod_count 4 (some .int)) (rmL 1) D ti [.ref mo, .int (xs (i + 1))] wr (RI ti mo σ1 st1 m1 0) (some (.int v))) (J : LJ p9 l e9 s9 m9 b9 me9 c9 b D ti co mo ou i (cells + 1) (slots + 6) Q9 811) : W p9 l e9 room_1 s9 m9 #[Value.ref b] b9 me9 c9 H locs cells slots Q9 (F0 m9 563 ls []) := by
  obtain ⟨hx, hb, hml, hown, hts⟩ := id S
  refine W.widen (k := cells + 1) (n := slots + 6) (by omega) (by omega) ?_
  refine lv_aload_n hx hb d_Law_law_563 rfl (lv_at hl 3 rfl) ?_
  refine lv_aload_n hx hb d_Law_law_564 rfl (lv_at hl 4 rfl) ?_
  refine lv_iload hx hb d_Law_law_565 (lv_at hl 0 rfl) ?_
  refine lv_iconst (v := 1) hx hb d_Law_law_567 (by decide) ?_
  refine lv_iadd hx hb d_Law_law_568 ?_
  refine q_topi (z := nI (i + 1)) (nI_add i 1) ?_
  refine law_sld (k := i + 1) S hX hbl hw (by omega) (by omega) d_Law_law_569 ?_
  refine lv_aload_n hx hb d_Law_law_570 rfl (lv_at hl 1 rfl) ?_
  refine q_cg (q_runSW (As := [.ref co, .int (xs (i + 1)), .ref ou]) (rest := []) S (Cg.front (g_Law_count l D ti co ou f wc _ _ v (hK).co hM) (fun z => congrArg (· + 1) z.len) wr) k_Law_count tb_5_15 rfl rfl ⟨by decide, by decide⟩ ⟨Pr.blind, hw.pre⟩ rfl hl.1 rfl (Nat.le_of_ble_eq_true rfl) d_Law_law_571 hroom) hw (fun z hD => z.consf hD) (fun zK H locs _ hw => ?_)
  have hK1 := zK.2.1
  refine W.eq (g2 := F0 m9 574 ls [.int (0 : Int32)]) rfl ?_
  have hw : Lv _ _ _ _ _ ((ou, lo ti (vp_updL f 0 v.toInt64)) :: (zK.1 ++ wr)) _ _ _ := hw
  refine lv_istore (lv' := [(5, .int (0 : Int32)), (4, .int (nI i)), (3, .ref ou), (2, .ref mo), (1, .ref co), (0, .ref b)]) hx hb d_Law_law_574 hl (by decide) rfl (fun ls hl => ?_)
  refine lv_aload_n hx hb d_Law_law_576 rfl (lv_at hl 3 rfl) ?_
  refine lv_aload_n hx hb d_Law_law_577 rfl (lv_at hl 5 rfl) ?_
  refine lv_iload hx hb d_Law_law_578 (lv_at hl 1 rfl) ?_
  refine lv_iconst (v := 1) hx hb d_Law_law_580 (by decide) ?_
  refine lv_iadd hx hb d_Law_law_581 ?_
  refine q_topi (z := nI (i + 1)) (nI_add i 1) ?_
  refine law_sld (k := i + 1) S hX hbl hw (by omega) (by omega) d_Law_law_582 ?_
  obtain ⟨fr2, hmo2⟩ := (hR).mo
  refine q_cg (q_runV (As := [.int (xs (i + 1))]) (rest := []) S (Cg.back hQ (fun z => z.len) ((ou, lo ti (vp_updL f 0 v.toInt64)) :: zK.1)) (cw_v hts tb_6_73 k_Mod_count rfl rfl ⟨by decide, by decide⟩) hw ((zK.1).length + 1) (at_mo hmo2) rfl rfl hl.1 rfl (Nat.le_of_ble_eq_true rfl) d_Law_law_583 hroom) hw (fun z hD => z.backf hD) (fun zR2 H locs _ hw => ?_)
  have hR2 := zR2.2.1
  refine W.eq (g2 := F0 m9 586 ls [.int v]) rfl ?_
  have hw : Lv _ _ _ _ _ ((ou, lo ti (vp_updL f 0 v.toInt64)) :: (zK.1 ++ zR2.1)) _ _ _ := hw
  refine lv_istore (lv' := [(6, .int v), (5, .int (0 : Int32)), (4, .int (nI i)), (3, .ref ou), (2, .ref mo), (1, .ref co), (0, .ref b)]) hx hb d_Law_law_586 hl (by decide) rfl (fun ls hl => ?_)
  refine lv_aload_n hx hb d_Law_law_588 rfl (lv_at hl 4 rfl) ?_
  obtain ⟨fr3, hmo3⟩ := (hR2).mo
  refine q_cg (q_runV (As := []) (rest := []) S (Cg.back (rk_thrown l D hR2) (fun z => z.len) ((ou, lo ti (vp_updL f 0 v.toInt64)) :: zK.1)) (cw_v hts tb_5_102 k_Mod_thrown rfl rfl ⟨by decide, by decide⟩) hw ((zK.1).length + 1) (at_mo hmo3) rfl rfl hl.1 rfl (Nat.le_of_ble_eq_true rfl) d_Law_law_589 hroom) hw (fun z hD => z.backf hD) (fun zR3 H locs _ hw => ?_)
  have hR3 := zR3.2.1
  refine W.eq (g2 := F0 m9 592 ls [.int (0 : Int32)]) rfl ?_
  have hw : Lv _ _ _ _ _ ((ou, lo ti (vp_updL f 0 v.toInt64)) :: (zK.1 ++ zR3.1)) _ _ _ := hw
  refine lv_iload hx hb d_Law_law_592 (lv_at hl 1 rfl) ?_
  refine lv_icmp_eq hx hb d_Law_law_594 rfl (fun _ => ?_) (fun h => absurd h (by decide))
  refine lv_iload hx hb d_Law_law_599 (lv_at hl 1 rfl) ?_
  refine lv_if_ne hx hb d_Law_law_601 rfl (fun h => absurd h (by decide)) (fun _ => ?_)
  refine lv_aload_n hx hb d_Law_law_604 rfl (lv_at hl 3 rfl) ?_
  refine lv_iconst (v := 0) hx hb d_Law_law_605 (by decide) ?_
  refine q_laldN (k := 0) S hw 0 2 rfl rfl (by decide) (by decide) d_Law_law_606 ?_
  refine q_topl (z := v.toInt64) (upd_0 _ _) ?_
  refine lv_iload hx hb d_Law_law_607 (lv_at hl 0 rfl) ?_
  refine lv_i2l (v := (v.toInt64)) hx hb d_Law_law_609 rfl ?_
  refine q_lc_eq S d_Law_law_610 d_Law_law_611 rfl (fun _ => ?_) (fun h => absurd (rfl) h)
  refine lv_goto hx hb d_Law_law_616 rfl ?_
  exact J _ _ _ _ _ _ _ _ _ _ hK1 hR3 hm1 hw (lv_sub (l' := [(4, .int (nI i)), (3, .ref ou), (2, .ref mo), (1, .ref co), (0, .ref b)]) hl [2, 3, 4, 5, 6] rfl)
set_option maxHeartbeats 4000000 in
set_option maxRecDepth 100000 in
theorem L_count_x {p9 : Program} {l : Launch} {e9 : Env} {s9 : State} {m9 : MethodId} {b9 : List Frame} {me9 : Method} {c9 : Code} {b L : Nat} {xs : Nat → Int32} {D : va_G} {ti : Nat → ClassId} {co mo ou i cells slots : Nat} {Q9 : State → Prop} {H : Heap} {locs : List Loc} {ls : Array Slot} {wc wr : va_W} {f : Nat → Int64} {σ : KS} {st : Int32} {m0 : Nat} {th : Int32}
    (S : CallFix p9 m9 c9 code 7 s9 #[Value.ref b] TB "CheriCoreLaw") (hX : va_X b L xs s9 s9.heap) (hbl : b < s9.heap.size) (hN : NW s9) (hZ : ZA s9) (hL : L ≤ 2560) (hi : i + 5 ≤ L) (hroom : cells + 1 ≤ 601024 ∧ slots + 6 ≤ 7293034) (hK : KI ti co σ st m0 wc) (hR : RI ti mo σ st m0 th wr) (hm : m0 ≤ 8) (hw : Lv D clz (ty4 ti) (AL s9) s9.heap ((ou, lo ti f) :: (wc ++ wr)) s9 H locs) (hl : lv_has ls 7 [(4, .int (nI i)), (3, .ref ou), (2, .ref mo), (1, .ref co), (0, .ref b)])
    (hM : CT1 l y_Cor_count (wl y_Cor_count b_Cor_count 2 (some .int)) D ti [.ref co, .int (xs (i + 1))] wc 95 X2 184 "nothing of that number is counted") (hQ : CK l y_Mod_count (wl y_Mod_count b_Mod_count 4 (some .int)) (rmL 1) D ti [.ref mo, .int (xs (i + 1))] wr (RI ti mo σ st m0 1) (some (.int 0))) (J : LJ p9 l e9 s9 m9 b9 me9 c9 b D ti co mo ou i (cells + 1) (slots + 6) Q9 811) : W p9 l e9 room_1 s9 m9 #[Value.ref b] b9 me9 c9 H locs cells slots Q9 (F0 m9 563 ls []) := by
  obtain ⟨hx, hb, hml, hown, hts⟩ := id S
  refine lv_aload_n hx hb d_Law_law_563 rfl (lv_at hl 3 rfl) ?_
  refine lv_aload_n hx hb d_Law_law_564 rfl (lv_at hl 4 rfl) ?_
  refine lv_iload hx hb d_Law_law_565 (lv_at hl 0 rfl) ?_
  refine lv_iconst (v := 1) hx hb d_Law_law_567 (by decide) ?_
  refine lv_iadd hx hb d_Law_law_568 ?_
  refine q_topi (z := nI (i + 1)) (nI_add i 1) ?_
  refine law_sld (k := i + 1) S hX hbl hw (by omega) (by omega) d_Law_law_569 ?_
  refine lv_aload_n hx hb d_Law_law_570 rfl (lv_at hl 1 rfl) ?_
  refine q_cx (q_runSW (As := [.ref co, .int (xs (i + 1)), .ref ou]) (rest := []) S (x_Law_count l D ti co ou f wc _ (hK).co hM) k_Law_count tb_5_15 rfl rfl ⟨by decide, by decide⟩ (Lv.preX (ws := (ou, lo ti f) :: wc) (Y := wr) hw hN (fun U hU hW => hZ.moved hW (fun q hq => by rw [hU]; exact hw.2.2.2.2.1 q hq (Nat.not_le.mpr hq)))) rfl hl.1 rfl (Nat.le_of_ble_eq_true rfl) d_Law_law_571 hroom) hw (fun H hw => ?_)
  refine W.eq (g2 := F0 m9 574 ls [.int (1 : Int32)]) rfl ?_
  have hw : Lv _ _ _ _ _ ((ou, lo ti f) :: (wc ++ wr)) _ _ _ := hw
  refine lv_istore (lv' := [(5, .int (1 : Int32)), (4, .int (nI i)), (3, .ref ou), (2, .ref mo), (1, .ref co), (0, .ref b)]) hx hb d_Law_law_574 hl (by decide) rfl (fun ls hl => ?_)
  refine lv_aload_n hx hb d_Law_law_576 rfl (lv_at hl 3 rfl) ?_
  refine lv_aload_n hx hb d_Law_law_577 rfl (lv_at hl 5 rfl) ?_
  refine lv_iload hx hb d_Law_law_578 (lv_at hl 1 rfl) ?_
  refine lv_iconst (v := 1) hx hb d_Law_law_580 (by decide) ?_
  refine lv_iadd hx hb d_Law_law_581 ?_
  refine q_topi (z := nI (i + 1)) (nI_add i 1) ?_
  refine law_sld (k := i + 1) S hX hbl hw (by omega) (by omega) d_Law_law_582 ?_
  obtain ⟨fr2, hmo2⟩ := (hR).mo
  refine q_cg (q_runV (As := [.int (xs (i + 1))]) (rest := []) S (Cg.back hQ (fun z => z.len) ((ou, lo ti f) :: wc)) (cw_v hts tb_6_73 k_Mod_count rfl rfl ⟨by decide, by decide⟩) hw ((wc).length + 1) (at_mo hmo2) rfl rfl hl.1 rfl (Nat.le_of_ble_eq_true rfl) d_Law_law_583 hroom) hw (fun z hD => z.backf hD) (fun zR2 H locs _ hw => ?_)
  have hR2 := zR2.2.1
  refine W.eq (g2 := F0 m9 586 ls [.int (0 : Int32)]) rfl ?_
  have hw : Lv _ _ _ _ _ ((ou, lo ti f) :: (wc ++ zR2.1)) _ _ _ := hw
  refine lv_istore (lv' := [(6, .int (0 : Int32)), (5, .int (1 : Int32)), (4, .int (nI i)), (3, .ref ou), (2, .ref mo), (1, .ref co), (0, .ref b)]) hx hb d_Law_law_586 hl (by decide) rfl (fun ls hl => ?_)
  refine lv_aload_n hx hb d_Law_law_588 rfl (lv_at hl 4 rfl) ?_
  obtain ⟨fr3, hmo3⟩ := (hR2).mo
  refine q_cg (q_runV (As := []) (rest := []) S (Cg.back (rk_thrown l D hR2) (fun z => z.len) ((ou, lo ti f) :: wc)) (cw_v hts tb_5_102 k_Mod_thrown rfl rfl ⟨by decide, by decide⟩) hw ((wc).length + 1) (at_mo hmo3) rfl rfl hl.1 rfl (Nat.le_of_ble_eq_true rfl) d_Law_law_589 hroom) hw (fun z hD => z.backf hD) (fun zR3 H locs _ hw => ?_)
  have hR3 := zR3.2.1
  refine W.eq (g2 := F0 m9 592 ls [.int (1 : Int32)]) rfl ?_
  have hw : Lv _ _ _ _ _ ((ou, lo ti f) :: (wc ++ zR3.1)) _ _ _ := hw
  refine lv_iload hx hb d_Law_law_592 (lv_at hl 1 rfl) ?_
  refine lv_icmp_eq hx hb d_Law_law_594 rfl (fun _ => ?_) (fun h => absurd h (by decide))
  refine lv_iload hx hb d_Law_law_599 (lv_at hl 1 rfl) ?_
  refine lv_if_ne hx hb d_Law_law_601 rfl (fun _ => ?_) (fun h => absurd h (by decide))
  refine lv_goto hx hb d_Law_law_616 rfl ?_
  exact J _ _ _ _ _ _ _ _ _ _ hK hR3 hm hw (lv_sub (l' := [(4, .int (nI i)), (3, .ref ou), (2, .ref mo), (1, .ref co), (0, .ref b)]) hl [2, 3, 4, 5, 6] rfl)
set_option maxHeartbeats 4000000 in
set_option maxRecDepth 100000 in
theorem L_pack_g {p9 : Program} {l : Launch} {e9 : Env} {s9 : State} {m9 : MethodId} {b9 : List Frame} {me9 : Method} {c9 : Code} {b L : Nat} {xs : Nat → Int32} {D : va_G} {ti : Nat → ClassId} {co mo ou i cells slots : Nat} {Q9 : State → Prop} {H : Heap} {locs : List Loc} {ls : Array Slot} {wc wr : va_W} {f : Nat → Int64} {σ : KS} {st : Int32} {m0 : Nat} {th : Int32}
    (S : CallFix p9 m9 c9 code 7 s9 #[Value.ref b] TB "CheriCoreLaw") (hX : va_X b L xs s9 s9.heap) (hbl : b < s9.heap.size) (hN : NW s9) (hZ : ZA s9) (hL : L ≤ 2560) (hi : i + 5 ≤ L) (hroom : cells + 1 ≤ 601024 ∧ slots + 6 ≤ 7293034) (hK : KI ti co σ st m0 wc) (hR : RI ti mo σ st m0 th wr) (hm : m0 ≤ 8) (hw : Lv D clz (ty4 ti) (AL s9) s9.heap ((ou, lo ti f) :: (wc ++ wr)) s9 H locs) (hl : lv_has ls 7 [(4, .int (nI i)), (3, .ref ou), (2, .ref mo), (1, .ref co), (0, .ref b)])
    (σ1 : KS) (st1 : Int32) (m1 : Nat) (hm1 : m1 ≤ 8) (v : Int32) (hM : CK l y_Cor_pack (wl y_Cor_pack b_Cor_pack 6 (some .int)) (rmL 3) D ti [.ref co, .int (xs (i + 1)), .long (jsl (xs (i + 2)).toInt64 (32 : Int32) ||| ((xs (i + 3)).toInt64 &&& 4294967295))] wc (KI ti co σ1 st1 m1) (some (.int v))) (hQ : CK l y_Mod_packP (wl y_Mod_packP b_Mod_packP 4 (some .int)) (rmL 1) D ti [.ref mo, .int (xs (i + 1)), .long (jsl (xs (i + 2)).toInt64 (32 : Int32) ||| ((xs (i + 3)).toInt64 &&& 4294967295))] wr (RI ti mo σ1 st1 m1 0) (some (.int v))) (J : LJ p9 l e9 s9 m9 b9 me9 c9 b D ti co mo ou i (cells + 1) (slots + 6) Q9 811) : W p9 l e9 room_1 s9 m9 #[Value.ref b] b9 me9 c9 H locs cells slots Q9 (F0 m9 619 ls []) := by
  obtain ⟨hx, hb, hml, hown, hts⟩ := id S
  refine W.widen (k := cells + 1) (n := slots + 6) (by omega) (by omega) ?_
  refine lv_aload_n hx hb d_Law_law_619 rfl (lv_at hl 3 rfl) ?_
  refine lv_aload_n hx hb d_Law_law_620 rfl (lv_at hl 4 rfl) ?_
  refine lv_iload hx hb d_Law_law_621 (lv_at hl 0 rfl) ?_
  refine lv_iconst (v := 1) hx hb d_Law_law_623 (by decide) ?_
  refine lv_iadd hx hb d_Law_law_624 ?_
  refine q_topi (z := nI (i + 1)) (nI_add i 1) ?_
  refine law_sld (k := i + 1) S hX hbl hw (by omega) (by omega) d_Law_law_625 ?_
  refine lv_aload_n hx hb d_Law_law_626 rfl (lv_at hl 4 rfl) ?_
  refine lv_iload hx hb d_Law_law_627 (lv_at hl 0 rfl) ?_
  refine lv_iconst (v := 2) hx hb d_Law_law_629 (by decide) ?_
  refine lv_iadd hx hb d_Law_law_630 ?_
  refine q_topi (z := nI (i + 2)) (nI_add i 2) ?_
  refine law_sld (k := i + 2) S hX hbl hw (by omega) (by omega) d_Law_law_631 ?_
  refine lv_i2l (v := ((xs (i + 2)).toInt64)) hx hb d_Law_law_632 rfl ?_
  refine lv_bipush (v := 32) hx hb d_Law_law_633 (by decide) ?_
  refine lv_lshl (v := (jsl ((xs (i + 2)).toInt64) (32 : Int32))) hx hb d_Law_law_635 rfl ?_
  refine lv_aload_n hx hb d_Law_law_636 rfl (lv_at hl 4 rfl) ?_
  refine lv_iload hx hb d_Law_law_637 (lv_at hl 0 rfl) ?_
  refine lv_iconst (v := 3) hx hb d_Law_law_639 (by decide) ?_
  refine lv_iadd hx hb d_Law_law_640 ?_
  refine q_topi (z := nI (i + 3)) (nI_add i 3) ?_
  refine law_sld (k := i + 3) S hX hbl hw (by omega) (by omega) d_Law_law_641 ?_
  refine lv_i2l (v := ((xs (i + 3)).toInt64)) hx hb d_Law_law_642 rfl ?_
  refine lv_ldc2 (v := 4294967295) hx hb hown (hts _ tb_6_94) d_Law_law_643 ?_
  refine lv_land hx hb d_Law_law_646 ?_
  refine lv_lor hx hb d_Law_law_647 ?_
  refine lv_aload_n hx hb d_Law_law_648 rfl (lv_at hl 1 rfl) ?_
  refine q_cg (q_runSW (As := [.ref co, .int (xs (i + 1)), .long ((jsl ((xs (i + 2)).toInt64) (32 : Int32)) ||| (((xs (i + 3)).toInt64) &&& (4294967295 : Int64))), .ref ou]) (rest := []) S (Cg.front (g_Law_pack l D ti co ou f wc _ _ _ v (hK).co hM) (fun z => congrArg (· + 1) z.len) wr) k_Law_pack tb_5_27 rfl rfl ⟨by decide, by decide⟩ ⟨Pr.blind, hw.pre⟩ rfl hl.1 rfl (Nat.le_of_ble_eq_true rfl) d_Law_law_649 hroom) hw (fun z hD => z.consf hD) (fun zK H locs _ hw => ?_)
  have hK1 := zK.2.1
  refine W.eq (g2 := F0 m9 652 ls [.int (0 : Int32)]) rfl ?_
  have hw : Lv _ _ _ _ _ ((ou, lo ti (vp_updL f 0 v.toInt64)) :: (zK.1 ++ wr)) _ _ _ := hw
  refine lv_istore (lv' := [(5, .int (0 : Int32)), (4, .int (nI i)), (3, .ref ou), (2, .ref mo), (1, .ref co), (0, .ref b)]) hx hb d_Law_law_652 hl (by decide) rfl (fun ls hl => ?_)
  refine lv_aload_n hx hb d_Law_law_654 rfl (lv_at hl 3 rfl) ?_
  refine lv_aload_n hx hb d_Law_law_655 rfl (lv_at hl 5 rfl) ?_
  refine lv_iload hx hb d_Law_law_656 (lv_at hl 1 rfl) ?_
  refine lv_iconst (v := 1) hx hb d_Law_law_658 (by decide) ?_
  refine lv_iadd hx hb d_Law_law_659 ?_
  refine q_topi (z := nI (i + 1)) (nI_add i 1) ?_
  refine law_sld (k := i + 1) S hX hbl hw (by omega) (by omega) d_Law_law_660 ?_
  refine lv_aload_n hx hb d_Law_law_661 rfl (lv_at hl 5 rfl) ?_
  refine lv_iload hx hb d_Law_law_662 (lv_at hl 1 rfl) ?_
  refine lv_iconst (v := 2) hx hb d_Law_law_664 (by decide) ?_
  refine lv_iadd hx hb d_Law_law_665 ?_
  refine q_topi (z := nI (i + 2)) (nI_add i 2) ?_
  refine law_sld (k := i + 2) S hX hbl hw (by omega) (by omega) d_Law_law_666 ?_
  refine lv_i2l (v := ((xs (i + 2)).toInt64)) hx hb d_Law_law_667 rfl ?_
  refine lv_bipush (v := 32) hx hb d_Law_law_668 (by decide) ?_
  refine lv_lshl (v := (jsl ((xs (i + 2)).toInt64) (32 : Int32))) hx hb d_Law_law_670 rfl ?_
  refine lv_aload_n hx hb d_Law_law_671 rfl (lv_at hl 5 rfl) ?_
  refine lv_iload hx hb d_Law_law_672 (lv_at hl 1 rfl) ?_
  refine lv_iconst (v := 3) hx hb d_Law_law_674 (by decide) ?_
  refine lv_iadd hx hb d_Law_law_675 ?_
  refine q_topi (z := nI (i + 3)) (nI_add i 3) ?_
  refine law_sld (k := i + 3) S hX hbl hw (by omega) (by omega) d_Law_law_676 ?_
  refine lv_i2l (v := ((xs (i + 3)).toInt64)) hx hb d_Law_law_677 rfl ?_
  refine lv_ldc2 (v := 4294967295) hx hb hown (hts _ tb_6_94) d_Law_law_678 ?_
  refine lv_land hx hb d_Law_law_681 ?_
  refine lv_lor hx hb d_Law_law_682 ?_
  obtain ⟨fr2, hmo2⟩ := (hR).mo
  refine q_cg (q_runV (As := [.int (xs (i + 1)), .long ((jsl ((xs (i + 2)).toInt64) (32 : Int32)) ||| (((xs (i + 3)).toInt64) &&& (4294967295 : Int64)))]) (rest := []) S (Cg.back hQ (fun z => z.len) ((ou, lo ti (vp_updL f 0 v.toInt64)) :: zK.1)) (cw_v hts tb_6_77 k_Mod_packP rfl rfl ⟨by decide, by decide⟩) hw ((zK.1).length + 1) (at_mo hmo2) rfl rfl hl.1 rfl (Nat.le_of_ble_eq_true rfl) d_Law_law_683 hroom) hw (fun z hD => z.backf hD) (fun zR2 H locs _ hw => ?_)
  have hR2 := zR2.2.1
  refine W.eq (g2 := F0 m9 686 ls [.int v]) rfl ?_
  have hw : Lv _ _ _ _ _ ((ou, lo ti (vp_updL f 0 v.toInt64)) :: (zK.1 ++ zR2.1)) _ _ _ := hw
  refine lv_istore (lv' := [(6, .int v), (5, .int (0 : Int32)), (4, .int (nI i)), (3, .ref ou), (2, .ref mo), (1, .ref co), (0, .ref b)]) hx hb d_Law_law_686 hl (by decide) rfl (fun ls hl => ?_)
  refine lv_aload_n hx hb d_Law_law_688 rfl (lv_at hl 4 rfl) ?_
  obtain ⟨fr3, hmo3⟩ := (hR2).mo
  refine q_cg (q_runV (As := []) (rest := []) S (Cg.back (rk_thrown l D hR2) (fun z => z.len) ((ou, lo ti (vp_updL f 0 v.toInt64)) :: zK.1)) (cw_v hts tb_5_102 k_Mod_thrown rfl rfl ⟨by decide, by decide⟩) hw ((zK.1).length + 1) (at_mo hmo3) rfl rfl hl.1 rfl (Nat.le_of_ble_eq_true rfl) d_Law_law_689 hroom) hw (fun z hD => z.backf hD) (fun zR3 H locs _ hw => ?_)
  have hR3 := zR3.2.1
  refine W.eq (g2 := F0 m9 692 ls [.int (0 : Int32)]) rfl ?_
  have hw : Lv _ _ _ _ _ ((ou, lo ti (vp_updL f 0 v.toInt64)) :: (zK.1 ++ zR3.1)) _ _ _ := hw
  refine lv_iload hx hb d_Law_law_692 (lv_at hl 1 rfl) ?_
  refine lv_icmp_eq hx hb d_Law_law_694 rfl (fun _ => ?_) (fun h => absurd h (by decide))
  refine lv_iload hx hb d_Law_law_699 (lv_at hl 1 rfl) ?_
  refine lv_if_ne hx hb d_Law_law_701 rfl (fun h => absurd h (by decide)) (fun _ => ?_)
  refine lv_aload_n hx hb d_Law_law_704 rfl (lv_at hl 3 rfl) ?_
  refine lv_iconst (v := 0) hx hb d_Law_law_705 (by decide) ?_
  refine q_laldN (k := 0) S hw 0 2 rfl rfl (by decide) (by decide) d_Law_law_706 ?_
  refine q_topl (z := v.toInt64) (upd_0 _ _) ?_
  refine lv_iload hx hb d_Law_law_707 (lv_at hl 0 rfl) ?_
  refine lv_i2l (v := (v.toInt64)) hx hb d_Law_law_709 rfl ?_
  refine q_lc_eq S d_Law_law_710 d_Law_law_711 rfl (fun _ => ?_) (fun h => absurd (rfl) h)
  refine lv_goto hx hb d_Law_law_716 rfl ?_
  exact J _ _ _ _ _ _ _ _ _ _ hK1 hR3 hm1 hw (lv_sub (l' := [(4, .int (nI i)), (3, .ref ou), (2, .ref mo), (1, .ref co), (0, .ref b)]) hl [2, 3, 4, 5, 6] rfl)
set_option maxHeartbeats 4000000 in
set_option maxRecDepth 100000 in
theorem L_pack_x {p9 : Program} {l : Launch} {e9 : Env} {s9 : State} {m9 : MethodId} {b9 : List Frame} {me9 : Method} {c9 : Code} {b L : Nat} {xs : Nat → Int32} {D : va_G} {ti : Nat → ClassId} {co mo ou i cells slots : Nat} {Q9 : State → Prop} {H : Heap} {locs : List Loc} {ls : Array Slot} {wc wr : va_W} {f : Nat → Int64} {σ : KS} {st : Int32} {m0 : Nat} {th : Int32}
    (S : CallFix p9 m9 c9 code 7 s9 #[Value.ref b] TB "CheriCoreLaw") (hX : va_X b L xs s9 s9.heap) (hbl : b < s9.heap.size) (hN : NW s9) (hZ : ZA s9) (hL : L ≤ 2560) (hi : i + 5 ≤ L) (hroom : cells + 1 ≤ 601024 ∧ slots + 6 ≤ 7293034) (hK : KI ti co σ st m0 wc) (hR : RI ti mo σ st m0 th wr) (hm : m0 ≤ 8) (hw : Lv D clz (ty4 ti) (AL s9) s9.heap ((ou, lo ti f) :: (wc ++ wr)) s9 H locs) (hl : lv_has ls 7 [(4, .int (nI i)), (3, .ref ou), (2, .ref mo), (1, .ref co), (0, .ref b)])
    (hM : CT1 l y_Cor_pack (wl y_Cor_pack b_Cor_pack 6 (some .int)) D ti [.ref co, .int (xs (i + 1)), .long (jsl (xs (i + 2)).toInt64 (32 : Int32) ||| ((xs (i + 3)).toInt64 &&& 4294967295))] wc 95 X2 186 "beyond the space of addresses") (hQ : CK l y_Mod_packP (wl y_Mod_packP b_Mod_packP 4 (some .int)) (rmL 1) D ti [.ref mo, .int (xs (i + 1)), .long (jsl (xs (i + 2)).toInt64 (32 : Int32) ||| ((xs (i + 3)).toInt64 &&& 4294967295))] wr (RI ti mo σ st m0 1) (some (.int 0))) (J : LJ p9 l e9 s9 m9 b9 me9 c9 b D ti co mo ou i (cells + 1) (slots + 6) Q9 811) : W p9 l e9 room_1 s9 m9 #[Value.ref b] b9 me9 c9 H locs cells slots Q9 (F0 m9 619 ls []) := by
  obtain ⟨hx, hb, hml, hown, hts⟩ := id S
  refine lv_aload_n hx hb d_Law_law_619 rfl (lv_at hl 3 rfl) ?_
  refine lv_aload_n hx hb d_Law_law_620 rfl (lv_at hl 4 rfl) ?_
  refine lv_iload hx hb d_Law_law_621 (lv_at hl 0 rfl) ?_
  refine lv_iconst (v := 1) hx hb d_Law_law_623 (by decide) ?_
  refine lv_iadd hx hb d_Law_law_624 ?_
  refine q_topi (z := nI (i + 1)) (nI_add i 1) ?_
  refine law_sld (k := i + 1) S hX hbl hw (by omega) (by omega) d_Law_law_625 ?_
  refine lv_aload_n hx hb d_Law_law_626 rfl (lv_at hl 4 rfl) ?_
  refine lv_iload hx hb d_Law_law_627 (lv_at hl 0 rfl) ?_
  refine lv_iconst (v := 2) hx hb d_Law_law_629 (by decide) ?_
  refine lv_iadd hx hb d_Law_law_630 ?_
  refine q_topi (z := nI (i + 2)) (nI_add i 2) ?_
  refine law_sld (k := i + 2) S hX hbl hw (by omega) (by omega) d_Law_law_631 ?_
  refine lv_i2l (v := ((xs (i + 2)).toInt64)) hx hb d_Law_law_632 rfl ?_
  refine lv_bipush (v := 32) hx hb d_Law_law_633 (by decide) ?_
  refine lv_lshl (v := (jsl ((xs (i + 2)).toInt64) (32 : Int32))) hx hb d_Law_law_635 rfl ?_
  refine lv_aload_n hx hb d_Law_law_636 rfl (lv_at hl 4 rfl) ?_
  refine lv_iload hx hb d_Law_law_637 (lv_at hl 0 rfl) ?_
  refine lv_iconst (v := 3) hx hb d_Law_law_639 (by decide) ?_
  refine lv_iadd hx hb d_Law_law_640 ?_
  refine q_topi (z := nI (i + 3)) (nI_add i 3) ?_
  refine law_sld (k := i + 3) S hX hbl hw (by omega) (by omega) d_Law_law_641 ?_
  refine lv_i2l (v := ((xs (i + 3)).toInt64)) hx hb d_Law_law_642 rfl ?_
  refine lv_ldc2 (v := 4294967295) hx hb hown (hts _ tb_6_94) d_Law_law_643 ?_
  refine lv_land hx hb d_Law_law_646 ?_
  refine lv_lor hx hb d_Law_law_647 ?_
  refine lv_aload_n hx hb d_Law_law_648 rfl (lv_at hl 1 rfl) ?_
  refine q_cx (q_runSW (As := [.ref co, .int (xs (i + 1)), .long ((jsl ((xs (i + 2)).toInt64) (32 : Int32)) ||| (((xs (i + 3)).toInt64) &&& (4294967295 : Int64))), .ref ou]) (rest := []) S (x_Law_pack l D ti co ou f wc _ _ (hK).co hM) k_Law_pack tb_5_27 rfl rfl ⟨by decide, by decide⟩ (Lv.preX (ws := (ou, lo ti f) :: wc) (Y := wr) hw hN (fun U hU hW => hZ.moved hW (fun q hq => by rw [hU]; exact hw.2.2.2.2.1 q hq (Nat.not_le.mpr hq)))) rfl hl.1 rfl (Nat.le_of_ble_eq_true rfl) d_Law_law_649 hroom) hw (fun H hw => ?_)
  refine W.eq (g2 := F0 m9 652 ls [.int (1 : Int32)]) rfl ?_
  have hw : Lv _ _ _ _ _ ((ou, lo ti f) :: (wc ++ wr)) _ _ _ := hw
  refine lv_istore (lv' := [(5, .int (1 : Int32)), (4, .int (nI i)), (3, .ref ou), (2, .ref mo), (1, .ref co), (0, .ref b)]) hx hb d_Law_law_652 hl (by decide) rfl (fun ls hl => ?_)
  refine lv_aload_n hx hb d_Law_law_654 rfl (lv_at hl 3 rfl) ?_
  refine lv_aload_n hx hb d_Law_law_655 rfl (lv_at hl 5 rfl) ?_
  refine lv_iload hx hb d_Law_law_656 (lv_at hl 1 rfl) ?_
  refine lv_iconst (v := 1) hx hb d_Law_law_658 (by decide) ?_
  refine lv_iadd hx hb d_Law_law_659 ?_
  refine q_topi (z := nI (i + 1)) (nI_add i 1) ?_
  refine law_sld (k := i + 1) S hX hbl hw (by omega) (by omega) d_Law_law_660 ?_
  refine lv_aload_n hx hb d_Law_law_661 rfl (lv_at hl 5 rfl) ?_
  refine lv_iload hx hb d_Law_law_662 (lv_at hl 1 rfl) ?_
  refine lv_iconst (v := 2) hx hb d_Law_law_664 (by decide) ?_
  refine lv_iadd hx hb d_Law_law_665 ?_
  refine q_topi (z := nI (i + 2)) (nI_add i 2) ?_
  refine law_sld (k := i + 2) S hX hbl hw (by omega) (by omega) d_Law_law_666 ?_
  refine lv_i2l (v := ((xs (i + 2)).toInt64)) hx hb d_Law_law_667 rfl ?_
  refine lv_bipush (v := 32) hx hb d_Law_law_668 (by decide) ?_
  refine lv_lshl (v := (jsl ((xs (i + 2)).toInt64) (32 : Int32))) hx hb d_Law_law_670 rfl ?_
  refine lv_aload_n hx hb d_Law_law_671 rfl (lv_at hl 5 rfl) ?_
  refine lv_iload hx hb d_Law_law_672 (lv_at hl 1 rfl) ?_
  refine lv_iconst (v := 3) hx hb d_Law_law_674 (by decide) ?_
  refine lv_iadd hx hb d_Law_law_675 ?_
  refine q_topi (z := nI (i + 3)) (nI_add i 3) ?_
  refine law_sld (k := i + 3) S hX hbl hw (by omega) (by omega) d_Law_law_676 ?_
  refine lv_i2l (v := ((xs (i + 3)).toInt64)) hx hb d_Law_law_677 rfl ?_
  refine lv_ldc2 (v := 4294967295) hx hb hown (hts _ tb_6_94) d_Law_law_678 ?_
  refine lv_land hx hb d_Law_law_681 ?_
  refine lv_lor hx hb d_Law_law_682 ?_
  obtain ⟨fr2, hmo2⟩ := (hR).mo
  refine q_cg (q_runV (As := [.int (xs (i + 1)), .long ((jsl ((xs (i + 2)).toInt64) (32 : Int32)) ||| (((xs (i + 3)).toInt64) &&& (4294967295 : Int64)))]) (rest := []) S (Cg.back hQ (fun z => z.len) ((ou, lo ti f) :: wc)) (cw_v hts tb_6_77 k_Mod_packP rfl rfl ⟨by decide, by decide⟩) hw ((wc).length + 1) (at_mo hmo2) rfl rfl hl.1 rfl (Nat.le_of_ble_eq_true rfl) d_Law_law_683 hroom) hw (fun z hD => z.backf hD) (fun zR2 H locs _ hw => ?_)
  have hR2 := zR2.2.1
  refine W.eq (g2 := F0 m9 686 ls [.int (0 : Int32)]) rfl ?_
  have hw : Lv _ _ _ _ _ ((ou, lo ti f) :: (wc ++ zR2.1)) _ _ _ := hw
  refine lv_istore (lv' := [(6, .int (0 : Int32)), (5, .int (1 : Int32)), (4, .int (nI i)), (3, .ref ou), (2, .ref mo), (1, .ref co), (0, .ref b)]) hx hb d_Law_law_686 hl (by decide) rfl (fun ls hl => ?_)
  refine lv_aload_n hx hb d_Law_law_688 rfl (lv_at hl 4 rfl) ?_
  obtain ⟨fr3, hmo3⟩ := (hR2).mo
  refine q_cg (q_runV (As := []) (rest := []) S (Cg.back (rk_thrown l D hR2) (fun z => z.len) ((ou, lo ti f) :: wc)) (cw_v hts tb_5_102 k_Mod_thrown rfl rfl ⟨by decide, by decide⟩) hw ((wc).length + 1) (at_mo hmo3) rfl rfl hl.1 rfl (Nat.le_of_ble_eq_true rfl) d_Law_law_689 hroom) hw (fun z hD => z.backf hD) (fun zR3 H locs _ hw => ?_)
  have hR3 := zR3.2.1
  refine W.eq (g2 := F0 m9 692 ls [.int (1 : Int32)]) rfl ?_
  have hw : Lv _ _ _ _ _ ((ou, lo ti f) :: (wc ++ zR3.1)) _ _ _ := hw
  refine lv_iload hx hb d_Law_law_692 (lv_at hl 1 rfl) ?_
  refine lv_icmp_eq hx hb d_Law_law_694 rfl (fun _ => ?_) (fun h => absurd h (by decide))
  refine lv_iload hx hb d_Law_law_699 (lv_at hl 1 rfl) ?_
  refine lv_if_ne hx hb d_Law_law_701 rfl (fun _ => ?_) (fun h => absurd h (by decide))
  refine lv_goto hx hb d_Law_law_716 rfl ?_
  exact J _ _ _ _ _ _ _ _ _ _ hK hR3 hm hw (lv_sub (l' := [(4, .int (nI i)), (3, .ref ou), (2, .ref mo), (1, .ref co), (0, .ref b)]) hl [2, 3, 4, 5, 6] rfl)
set_option maxHeartbeats 4000000 in
set_option maxRecDepth 100000 in
theorem L_bound {p9 : Program} {l : Launch} {e9 : Env} {s9 : State} {m9 : MethodId} {b9 : List Frame} {me9 : Method} {c9 : Code} {b L : Nat} {xs : Nat → Int32} {D : va_G} {ti : Nat → ClassId} {co mo ou i cells slots : Nat} {Q9 : State → Prop} {H : Heap} {locs : List Loc} {ls : Array Slot} {wc wr : va_W} {f : Nat → Int64} {σ : KS} {st : Int32} {m0 : Nat} {th : Int32}
    (S : CallFix p9 m9 c9 code 7 s9 #[Value.ref b] TB "CheriCoreLaw") (hX : va_X b L xs s9 s9.heap) (hbl : b < s9.heap.size) (hN : NW s9) (hZ : ZA s9) (hL : L ≤ 2560) (hi : i + 5 ≤ L) (hroom : cells + 1 ≤ 601024 ∧ slots + 6 ≤ 7293034) (hK : KI ti co σ st m0 wc) (hR : RI ti mo σ st m0 th wr) (hm : m0 ≤ 8) (hw : Lv D clz (ty4 ti) (AL s9) s9.heap ((ou, lo ti f) :: (wc ++ wr)) s9 H locs) (hl : lv_has ls 7 [(4, .int (nI i)), (3, .ref ou), (2, .ref mo), (1, .ref co), (0, .ref b)])
     (J : LJ p9 l e9 s9 m9 b9 me9 c9 b D ti co mo ou i (cells + 1) (slots + 6) Q9 811) : W p9 l e9 room_1 s9 m9 #[Value.ref b] b9 me9 c9 H locs cells slots Q9 (F0 m9 719 ls []) := by
  obtain ⟨hx, hb, hml, hown, hts⟩ := id S
  obtain ⟨fc, hc⟩ := hK.co
  refine lv_aload_n hx hb d_Law_law_719 rfl (lv_at hl 3 rfl) ?_
  refine lv_aload_n hx hb d_Law_law_720 rfl (lv_at hl 4 rfl) ?_
  refine lv_iload hx hb d_Law_law_721 (lv_at hl 0 rfl) ?_
  refine lv_iconst (v := 1) hx hb d_Law_law_723 (by decide) ?_
  refine lv_iadd hx hb d_Law_law_724 ?_
  refine q_topi (z := nI (i + 1)) (nI_add i 1) ?_
  refine law_sld (k := i + 1) S hX hbl hw (by omega) (by omega) d_Law_law_725 ?_
  refine lv_aload_n hx hb d_Law_law_726 rfl (lv_at hl 4 rfl) ?_
  refine lv_iload hx hb d_Law_law_727 (lv_at hl 0 rfl) ?_
  refine lv_iconst (v := 2) hx hb d_Law_law_729 (by decide) ?_
  refine lv_iadd hx hb d_Law_law_730 ?_
  refine q_topi (z := nI (i + 2)) (nI_add i 2) ?_
  refine law_sld (k := i + 2) S hX hbl hw (by omega) (by omega) d_Law_law_731 ?_
  refine lv_aload_n hx hb d_Law_law_732 rfl (lv_at hl 4 rfl) ?_
  refine lv_iload hx hb d_Law_law_733 (lv_at hl 0 rfl) ?_
  refine lv_iconst (v := 3) hx hb d_Law_law_735 (by decide) ?_
  refine lv_iadd hx hb d_Law_law_736 ?_
  refine q_topi (z := nI (i + 3)) (nI_add i 3) ?_
  refine law_sld (k := i + 3) S hX hbl hw (by omega) (by omega) d_Law_law_737 ?_
  refine lv_if_eq hx hb d_Law_law_738 rfl (fun h738 => ?_) (fun h738 => ?_)
  · refine lv_iconst (v := 0) hx hb d_Law_law_745 (by decide) ?_
    refine q_cg (q_runV (As := [.int (xs (i + 1)), .int (xs (i + 2)), .int (0 : Int32)]) (rest := []) S (CK.at (ck_bound l D hK (xs (i + 1)) (xs (i + 2)) false) [(ou, lo ti f)] wr) (cw_v hts tb_2_98 k_Cor_bound rfl rfl ⟨by decide, by decide⟩) hw 70 (at_co hc) rfl rfl hl.1 rfl (Nat.le_of_ble_eq_true rfl) d_Law_law_746 ⟨Nat.le_of_succ_le hroom.1, Nat.le_trans (Nat.le_add_right _ 6) hroom.2⟩) hw (fun z hD => z.apart hD) (fun zK H locs _ hw => ?_)
    have hK1 := zK.2.1
    have hR := hR.up39 (false, xs (i + 2), xs (i + 1) &&& 32767)
    refine W.eq (g2 := F0 m9 749 ls [.long (if false = false then cbase ((xs (i + 1)) &&& 32767) (xs (i + 2)) else ctop ((xs (i + 1)) &&& 32767) (xs (i + 2)))]) rfl ?_
    have hw : Lv _ _ _ _ _ ((ou, lo ti f) :: (zK.1 ++ wr)) _ _ _ := hw
    refine lv_aload_n hx hb d_Law_law_749 rfl (lv_at hl 2 rfl) ?_
    refine lv_aload_n hx hb d_Law_law_750 rfl (lv_at hl 4 rfl) ?_
    refine lv_iload hx hb d_Law_law_751 (lv_at hl 0 rfl) ?_
    refine lv_iconst (v := 1) hx hb d_Law_law_753 (by decide) ?_
    refine lv_iadd hx hb d_Law_law_754 ?_
    refine q_topi (z := nI (i + 1)) (nI_add i 1) ?_
    refine law_sld (k := i + 1) S hX hbl hw (by omega) (by omega) d_Law_law_755 ?_
    refine lv_aload_n hx hb d_Law_law_756 rfl (lv_at hl 4 rfl) ?_
    refine lv_iload hx hb d_Law_law_757 (lv_at hl 0 rfl) ?_
    refine lv_iconst (v := 2) hx hb d_Law_law_759 (by decide) ?_
    refine lv_iadd hx hb d_Law_law_760 ?_
    refine q_topi (z := nI (i + 2)) (nI_add i 2) ?_
    refine law_sld (k := i + 2) S hX hbl hw (by omega) (by omega) d_Law_law_761 ?_
    refine lv_aload_n hx hb d_Law_law_762 rfl (lv_at hl 4 rfl) ?_
    refine lv_iload hx hb d_Law_law_763 (lv_at hl 0 rfl) ?_
    refine lv_iconst (v := 3) hx hb d_Law_law_765 (by decide) ?_
    refine lv_iadd hx hb d_Law_law_766 ?_
    refine q_topi (z := nI (i + 3)) (nI_add i 3) ?_
    refine law_sld (k := i + 3) S hX hbl hw (by omega) (by omega) d_Law_law_767 ?_
    refine lv_if_eq hx hb d_Law_law_768 rfl (fun _ => ?_) (fun h => absurd h (not_not_intro h738))
    refine lv_iconst (v := 0) hx hb d_Law_law_775 (by decide) ?_
    obtain ⟨fr2, hmo2⟩ := (hR).mo
    refine q_cg (q_runV (As := [.int (xs (i + 1)), .int (xs (i + 2)), .int (0 : Int32)]) (rest := [.long (if false = false then cbase ((xs (i + 1)) &&& 32767) (xs (i + 2)) else ctop ((xs (i + 1)) &&& 32767) (xs (i + 2)))]) S (Cg.back (rk_bound l D hR (xs (i + 1)) (xs (i + 2)) false) (fun z => z.len) ((ou, lo ti f) :: zK.1)) (cw_v hts tb_6_78 k_Mod_bound rfl rfl ⟨by decide, by decide⟩) hw ((zK.1).length + 1) (at_mo hmo2) rfl rfl hl.1 rfl (Nat.le_of_ble_eq_true rfl) d_Law_law_776 ⟨Nat.le_of_succ_le hroom.1, Nat.le_trans (Nat.le_add_right _ 6) hroom.2⟩) hw (fun z hD => z.backf hD) (fun zR2 H locs _ hw => ?_)
    have hR2 := zR2.2.1
    refine W.eq (g2 := F0 m9 779 ls [.long (if false = false then cbase ((xs (i + 1)) &&& 32767) (xs (i + 2)) else ctop ((xs (i + 1)) &&& 32767) (xs (i + 2))), .long (if false = false then cbase ((xs (i + 1)) &&& 32767) (xs (i + 2)) else ctop ((xs (i + 1)) &&& 32767) (xs (i + 2)))]) rfl ?_
    have hw : Lv _ _ _ _ _ ((ou, lo ti f) :: (zK.1 ++ zR2.1)) _ _ _ := hw
    refine q_lc_eq S d_Law_law_779 d_Law_law_780 rfl (fun _ => ?_) (fun h => absurd (rfl) h)
    refine W.widen (k := cells + 1) (n := slots + 6) (by omega) (by omega) ?_
    exact J _ _ _ _ _ _ _ _ _ _ hK1 hR2 hm hw (lv_sub (l' := [(4, .int (nI i)), (3, .ref ou), (2, .ref mo), (1, .ref co), (0, .ref b)]) hl [0, 1, 2, 3, 4] rfl)
  · refine lv_iconst (v := 1) hx hb d_Law_law_741 (by decide) ?_
    refine lv_goto hx hb d_Law_law_742 rfl ?_
    refine q_cg (q_runV (As := [.int (xs (i + 1)), .int (xs (i + 2)), .int (1 : Int32)]) (rest := []) S (CK.at (ck_bound l D hK (xs (i + 1)) (xs (i + 2)) true) [(ou, lo ti f)] wr) (cw_v hts tb_2_98 k_Cor_bound rfl rfl ⟨by decide, by decide⟩) hw 70 (at_co hc) rfl rfl hl.1 rfl (Nat.le_of_ble_eq_true rfl) d_Law_law_746 ⟨Nat.le_of_succ_le hroom.1, Nat.le_trans (Nat.le_add_right _ 6) hroom.2⟩) hw (fun z hD => z.apart hD) (fun zK H locs _ hw => ?_)
    have hK1 := zK.2.1
    have hR := hR.up39 (false, xs (i + 2), xs (i + 1) &&& 32767)
    refine W.eq (g2 := F0 m9 749 ls [.long (if true = false then cbase ((xs (i + 1)) &&& 32767) (xs (i + 2)) else ctop ((xs (i + 1)) &&& 32767) (xs (i + 2)))]) rfl ?_
    have hw : Lv _ _ _ _ _ ((ou, lo ti f) :: (zK.1 ++ wr)) _ _ _ := hw
    refine lv_aload_n hx hb d_Law_law_749 rfl (lv_at hl 2 rfl) ?_
    refine lv_aload_n hx hb d_Law_law_750 rfl (lv_at hl 4 rfl) ?_
    refine lv_iload hx hb d_Law_law_751 (lv_at hl 0 rfl) ?_
    refine lv_iconst (v := 1) hx hb d_Law_law_753 (by decide) ?_
    refine lv_iadd hx hb d_Law_law_754 ?_
    refine q_topi (z := nI (i + 1)) (nI_add i 1) ?_
    refine law_sld (k := i + 1) S hX hbl hw (by omega) (by omega) d_Law_law_755 ?_
    refine lv_aload_n hx hb d_Law_law_756 rfl (lv_at hl 4 rfl) ?_
    refine lv_iload hx hb d_Law_law_757 (lv_at hl 0 rfl) ?_
    refine lv_iconst (v := 2) hx hb d_Law_law_759 (by decide) ?_
    refine lv_iadd hx hb d_Law_law_760 ?_
    refine q_topi (z := nI (i + 2)) (nI_add i 2) ?_
    refine law_sld (k := i + 2) S hX hbl hw (by omega) (by omega) d_Law_law_761 ?_
    refine lv_aload_n hx hb d_Law_law_762 rfl (lv_at hl 4 rfl) ?_
    refine lv_iload hx hb d_Law_law_763 (lv_at hl 0 rfl) ?_
    refine lv_iconst (v := 3) hx hb d_Law_law_765 (by decide) ?_
    refine lv_iadd hx hb d_Law_law_766 ?_
    refine q_topi (z := nI (i + 3)) (nI_add i 3) ?_
    refine law_sld (k := i + 3) S hX hbl hw (by omega) (by omega) d_Law_law_767 ?_
    refine lv_if_eq hx hb d_Law_law_768 rfl (fun h => absurd h (h738)) (fun _ => ?_)
    refine lv_iconst (v := 1) hx hb d_Law_law_771 (by decide) ?_
    refine lv_goto hx hb d_Law_law_772 rfl ?_
    obtain ⟨fr2, hmo2⟩ := (hR).mo
    refine q_cg (q_runV (As := [.int (xs (i + 1)), .int (xs (i + 2)), .int (1 : Int32)]) (rest := [.long (if true = false then cbase ((xs (i + 1)) &&& 32767) (xs (i + 2)) else ctop ((xs (i + 1)) &&& 32767) (xs (i + 2)))]) S (Cg.back (rk_bound l D hR (xs (i + 1)) (xs (i + 2)) true) (fun z => z.len) ((ou, lo ti f) :: zK.1)) (cw_v hts tb_6_78 k_Mod_bound rfl rfl ⟨by decide, by decide⟩) hw ((zK.1).length + 1) (at_mo hmo2) rfl rfl hl.1 rfl (Nat.le_of_ble_eq_true rfl) d_Law_law_776 ⟨Nat.le_of_succ_le hroom.1, Nat.le_trans (Nat.le_add_right _ 6) hroom.2⟩) hw (fun z hD => z.backf hD) (fun zR2 H locs _ hw => ?_)
    have hR2 := zR2.2.1
    refine W.eq (g2 := F0 m9 779 ls [.long (if true = false then cbase ((xs (i + 1)) &&& 32767) (xs (i + 2)) else ctop ((xs (i + 1)) &&& 32767) (xs (i + 2))), .long (if true = false then cbase ((xs (i + 1)) &&& 32767) (xs (i + 2)) else ctop ((xs (i + 1)) &&& 32767) (xs (i + 2)))]) rfl ?_
    have hw : Lv _ _ _ _ _ ((ou, lo ti f) :: (zK.1 ++ zR2.1)) _ _ _ := hw
    refine q_lc_eq S d_Law_law_779 d_Law_law_780 rfl (fun _ => ?_) (fun h => absurd (rfl) h)
    refine W.widen (k := cells + 1) (n := slots + 6) (by omega) (by omega) ?_
    exact J _ _ _ _ _ _ _ _ _ _ hK1 hR2 hm hw (lv_sub (l' := [(4, .int (nI i)), (3, .ref ou), (2, .ref mo), (1, .ref co), (0, .ref b)]) hl [0, 1, 2, 3, 4] rfl)
set_option maxHeartbeats 4000000 in
set_option maxRecDepth 100000 in
theorem L_grown {p9 : Program} {l : Launch} {e9 : Env} {s9 : State} {m9 : MethodId} {b9 : List Frame} {me9 : Method} {c9 : Code} {b L : Nat} {xs : Nat → Int32} {D : va_G} {ti : Nat → ClassId} {co mo ou i cells slots : Nat} {Q9 : State → Prop} {H : Heap} {locs : List Loc} {ls : Array Slot} {wc wr : va_W} {f : Nat → Int64} {σ : KS} {st : Int32} {m0 : Nat} {th : Int32}
    (S : CallFix p9 m9 c9 code 7 s9 #[Value.ref b] TB "CheriCoreLaw") (hX : va_X b L xs s9 s9.heap) (hbl : b < s9.heap.size) (hN : NW s9) (hZ : ZA s9) (hL : L ≤ 2560) (hi : i + 5 ≤ L) (hroom : cells + 1 ≤ 601024 ∧ slots + 6 ≤ 7293034) (hK : KI ti co σ st m0 wc) (hR : RI ti mo σ st m0 th wr) (hm : m0 ≤ 8) (hw : Lv D clz (ty4 ti) (AL s9) s9.heap ((ou, lo ti f) :: (wc ++ wr)) s9 H locs) (hl : lv_has ls 7 [(4, .int (nI i)), (3, .ref ou), (2, .ref mo), (1, .ref co), (0, .ref b)])
     (J : LJ p9 l e9 s9 m9 b9 me9 c9 b D ti co mo ou i (cells + 1) (slots + 6) Q9 811) : W p9 l e9 room_1 s9 m9 #[Value.ref b] b9 me9 c9 H locs cells slots Q9 (F0 m9 785 ls []) := by
  obtain ⟨hx, hb, hml, hown, hts⟩ := id S
  obtain ⟨fc, hc⟩ := hK.co
  refine lv_aload_n hx hb d_Law_law_785 rfl (lv_at hl 3 rfl) ?_
  refine q_cg (q_runV (As := []) (rest := []) S (CK.at (ck_grown l D hK hm) [(ou, lo ti f)] wr) (cw_v hts tb_2_119 k_Cor_grown rfl rfl ⟨by decide, by decide⟩) hw 70 (at_co hc) rfl rfl hl.1 rfl (Nat.le_of_ble_eq_true rfl) d_Law_law_786 ⟨Nat.le_of_succ_le hroom.1, Nat.le_trans (Nat.le_add_right _ 6) hroom.2⟩) hw (fun z hD => z.apart hD) (fun zK H locs _ hw => ?_)
  have hK1 := zK.2.1
  obtain ⟨c9_, hK1⟩ := hK1
  have hR := hR.up39 c9_
  refine W.eq (g2 := F0 m9 789 ls [.int (gr2 σ.R m0 σ.w σ.g 2048)]) rfl ?_
  have hw : Lv _ _ _ _ _ ((ou, lo ti f) :: (zK.1 ++ wr)) _ _ _ := hw
  refine lv_aload_n hx hb d_Law_law_789 rfl (lv_at hl 2 rfl) ?_
  obtain ⟨fr2, hmo2⟩ := (hR).mo
  refine q_cg (q_runV (As := []) (rest := [.int (gr2 σ.R m0 σ.w σ.g 2048)]) S (Cg.back (rk_grown l D hR hm) (fun z => z.len) ((ou, lo ti f) :: zK.1)) (cw_v hts tb_6_82 k_Mod_grown rfl rfl ⟨by decide, by decide⟩) hw ((zK.1).length + 1) (at_mo hmo2) rfl rfl hl.1 rfl (Nat.le_of_ble_eq_true rfl) d_Law_law_790 ⟨Nat.le_of_succ_le hroom.1, Nat.le_trans (Nat.le_add_right _ 6) hroom.2⟩) hw (fun z hD => z.backf hD) (fun zR2 H locs _ hw => ?_)
  have hR2 := zR2.2.1
  refine W.eq (g2 := F0 m9 793 ls [.int (gr2 (va_up σ.R 39 c9_) m0 σ.w σ.g 2048), .int (gr2 σ.R m0 σ.w σ.g 2048)]) rfl ?_
  have hw : Lv _ _ _ _ _ ((ou, lo ti f) :: (zK.1 ++ zR2.1)) _ _ _ := hw
  refine lv_icmp_eq hx hb d_Law_law_793 rfl (fun _ => ?_) (fun h => absurd h (not_not_intro (gr2_39 σ.R m0 σ.w σ.g c9_ 2048).symm))
  refine W.widen (k := cells + 1) (n := slots + 6) (by omega) (by omega) ?_
  exact J _ _ _ _ _ _ _ _ _ _ hK1 hR2 hm hw (lv_sub (l' := [(4, .int (nI i)), (3, .ref ou), (2, .ref mo), (1, .ref co), (0, .ref b)]) hl [0, 1, 2, 3, 4] rfl)
set_option maxHeartbeats 4000000 in
set_option maxRecDepth 100000 in
theorem L_check {p9 : Program} {l : Launch} {e9 : Env} {s9 : State} {m9 : MethodId} {b9 : List Frame} {me9 : Method} {c9 : Code} {b L : Nat} {xs : Nat → Int32} {D : va_G} {ti : Nat → ClassId} {co mo ou i cells slots : Nat} {Q9 : State → Prop} {H : Heap} {locs : List Loc} {ls : Array Slot} {wc wr : va_W} {f : Nat → Int64} {σ : KS} {st : Int32} {m0 : Nat} {th : Int32}
    (S : CallFix p9 m9 c9 code 7 s9 #[Value.ref b] TB "CheriCoreLaw") (hX : va_X b L xs s9 s9.heap) (hbl : b < s9.heap.size) (hN : NW s9) (hZ : ZA s9) (hL : L ≤ 2560) (hi : i + 5 ≤ L) (hroom : cells + 1 ≤ 601024 ∧ slots + 6 ≤ 7293034) (hK : KI ti co σ st m0 wc) (hR : RI ti mo σ st m0 th wr) (hm : m0 ≤ 8) (hw : Lv D clz (ty4 ti) (AL s9) s9.heap ((ou, lo ti f) :: (wc ++ wr)) s9 H locs) (hl : lv_has ls 7 [(4, .int (nI i)), (3, .ref ou), (2, .ref mo), (1, .ref co), (0, .ref b)])
     (J : LJ p9 l e9 s9 m9 b9 me9 c9 b D ti co mo ou i (cells + 1) (slots + 6) Q9 811) : W p9 l e9 room_1 s9 m9 #[Value.ref b] b9 me9 c9 H locs cells slots Q9 (F0 m9 798 ls []) := by
  obtain ⟨hx, hb, hml, hown, hts⟩ := id S
  obtain ⟨fc, hc⟩ := hK.co
  refine lv_aload_n hx hb d_Law_law_798 rfl (lv_at hl 3 rfl) ?_
  refine q_cg (q_runV (As := []) (rest := []) S (CK.at (ck_check l D hK) [(ou, lo ti f)] wr) (cw_v hts tb_2_159 k_Cor_check rfl rfl ⟨by decide, by decide⟩) hw 70 (at_co hc) rfl rfl hl.1 rfl (Nat.le_of_ble_eq_true rfl) d_Law_law_799 ⟨Nat.le_of_succ_le hroom.1, Nat.le_trans (Nat.le_add_right _ 6) hroom.2⟩) hw (fun z hD => z.apart hD) (fun zK H locs _ hw => ?_)
  have hK1 := zK.2.1
  refine W.eq (g2 := F0 m9 802 ls [.int (0 : Int32)]) rfl ?_
  have hw : Lv _ _ _ _ _ ((ou, lo ti f) :: (zK.1 ++ wr)) _ _ _ := hw
  refine lv_aload_n hx hb d_Law_law_802 rfl (lv_at hl 2 rfl) ?_
  obtain ⟨fr2, hmo2⟩ := (hR).mo
  refine q_cg (q_runV (As := []) (rest := [.int (0 : Int32)]) S (Cg.back (rk_check l D hR) (fun z => z.len) ((ou, lo ti f) :: zK.1)) (cw_v hts tb_6_90 k_Mod_check rfl rfl ⟨by decide, by decide⟩) hw ((zK.1).length + 1) (at_mo hmo2) rfl rfl hl.1 rfl (Nat.le_of_ble_eq_true rfl) d_Law_law_803 ⟨Nat.le_of_succ_le hroom.1, Nat.le_trans (Nat.le_add_right _ 6) hroom.2⟩) hw (fun z hD => z.backf hD) (fun zR2 H locs _ hw => ?_)
  have hR2 := zR2.2.1
  refine W.eq (g2 := F0 m9 806 ls [.int (0 : Int32), .int (0 : Int32)]) rfl ?_
  have hw : Lv _ _ _ _ _ ((ou, lo ti f) :: (zK.1 ++ zR2.1)) _ _ _ := hw
  refine lv_icmp_eq hx hb d_Law_law_806 rfl (fun _ => ?_) (fun h => absurd h (by decide))
  refine W.widen (k := cells + 1) (n := slots + 6) (by omega) (by omega) ?_
  exact J _ _ _ _ _ _ _ _ _ _ hK1 hR2 hm hw (lv_sub (l' := [(4, .int (nI i)), (3, .ref ou), (2, .ref mo), (1, .ref co), (0, .ref b)]) hl [0, 1, 2, 3, 4] rfl)
