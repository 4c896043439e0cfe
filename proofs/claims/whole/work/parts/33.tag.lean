/-! Memory, its directory and its tag store: one world of thirteen cells. -/
def MW (ad : Nat → Nat) (ti : Nat → ClassId) (words mc mt : Nat → Int32) (mw : Nat → Bool) (rows held tc : Nat → Int32) (tw : Nat → Bool) (lines nx : Nat → Int32) : va_W :=
  [(ad 0, .inr (4, [.ref (ad 1), .ref (ad 2), .ref (ad 3), .ref (ad 4), .ref (ad 5), .ref (ad 6)])), (ad 1, .inl (ti 0, 4096, .inl words)), (ad 2, .inr (3, [.ref (ad 7), .ref (ad 8), .ref (ad 9), .ref (ad 10)])), (ad 3, .inr (2, [.ref (ad 11), .ref (ad 12)])),
   (ad 4, .inl (ti 0, 256, .inl mc)), (ad 5, .inl (ti 0, 32, .inl mt)), (ad 6, .inl (ti 1, 32, .inl (fun j => jb (mw j)))), (ad 7, .inl (ti 0, 64, .inl rows)), (ad 8, .inl (ti 0, 8, .inl held)), (ad 9, .inl (ti 0, 8, .inl tc)), (ad 10, .inl (ti 1, 8, .inl (fun j => jb (tw j)))),
   (ad 11, .inl (ti 0, 32, .inl lines)), (ad 12, .inl (ti 0, 16, .inl nx))]
theorem iinc1 (a : Nat) : nI a + Int32.ofInt 1 = nI (a + 1) := nI_1 a
theorem lt_nge {c z : Nat} (hc : c < 2 ^ 31) (hz : z ≤ c) (h : ¬ nI c ≤ nI z) : z < c := by
  rcases Nat.lt_or_ge z c with h1 | h1
  · exact h1
  · exact absurd (nI_le h1 (by omega)) h
def mFind (lines : Nat → Int32) (n : Nat) : Int32 := if lines (n % 16 * 2) = nI n then nI (n % 16 * 2) else if lines (n % 16 * 2 + 1) = nI n then nI (n % 16 * 2 + 1) else -1
def mVic (nx : Nat → Int32) (n : Nat) : Int32 := nI (n % 16 * 2) + nx (n % 16)
def jpop1 (x : Int32) : Int32 := x - (jus x 1 &&& 1431655765)
def jpop2 (x : Int32) : Int32 := (x &&& 858993459) + (jus x 2 &&& 858993459)
def jpop3 (x : Int32) : Int32 := (x + jus x 4) &&& 252645135
def jpop4 (x : Int32) : Int32 := x + jus x 8
def jpop5 (x : Int32) : Int32 := x + jus x 16
def jpop (x : Int32) : Int32 := jpop5 (jpop4 (jpop3 (jpop2 (jpop1 x)))) &&& 63
theorem jpop_0 : jpop 0 = 0 := by decide +kernel
/-- no line stands twice -/
def LD (lines : Nat → Int32) : Prop := ∀ i j, i < 32 → j < 32 → i < j → lines i ≠ -1 → lines i ≠ lines j
/-- the tag store's own order -/
def TI (rows held tc : Nat → Int32) (tw : Nat → Bool) : Prop := ∀ j, j < 8 → (held j = -1 ∧ tc j = 0) ∨ ∃ r, r < 64 ∧ r % 8 = j ∧ held j = nI r ∧ (tw j = false → tc j = rows r)
theorem nI_m1 {r : Nat} (h : r < 64) : ¬ nI r = -1 := by
  intro q
  have h1 := nI_toInt (n := r) (by omega)
  rw [q] at h1
  have h2 : (-1 : Int32).toInt = -1 := rfl
  omega
theorem TI.row {rows held tc : Nat → Int32} {tw : Nat → Bool} (h : TI rows held tc tw) {j : Nat} (hj : j < 8) (hn : ¬ held j = -1) : ∃ r, r < 64 ∧ r % 8 = j ∧ held j = nI r ∧ (tw j = false → tc j = rows r) := by
  rcases h j hj with h1 | h1
  · exact absurd h1.1 hn
  · exact h1
theorem TI.none {rows held tc : Nat → Int32} {tw : Nat → Bool} (h : TI rows held tc tw) {j : Nat} (hj : j < 8) (hn : held j = -1) : tc j = 0 := by
  rcases h j hj with h1 | ⟨r, h1, h2, h3, h4⟩
  · exact h1.2
  · exact absurd (h3.symm.trans hn) (nI_m1 h1)
def tAt (n : Nat) : Int32 := nI (4 * (n % 8))
def tOf (tc : Nat → Int32) (n : Nat) : Int32 := jus (tc (n / 8 % 8)) (tAt n) &&& 15
def tSeen (rows held tc : Nat → Int32) (n : Nat) : Int32 := jus (if held (n / 8 % 8) = nI (n / 8) then tc (n / 8 % 8) else rows (n / 8)) (tAt n) &&& 15
def kpTc (tc : Nat → Int32) (n : Nat) (t : Int32) : Nat → Int32 := upd tc (n / 8 % 8) ((tc (n / 8 % 8) &&& (((15 : Int32) <<< (tAt n &&& 31)) ^^^ (-1))) ||| (t <<< (tAt n &&& 31)))
def brRows (rows held tc : Nat → Int32) (tw : Nat → Bool) (n : Nat) : Nat → Int32 := if held (n / 8 % 8) = nI (n / 8) then rows else if held (n / 8 % 8) = -1 then rows else if tw (n / 8 % 8) = false then rows else upd rows (held (n / 8 % 8)).toNatClampNeg (tc (n / 8 % 8))
def brTc (rows held tc : Nat → Int32) (tw : Nat → Bool) (n : Nat) : Nat → Int32 := if held (n / 8 % 8) = nI (n / 8) then tc else upd tc (n / 8 % 8) (brRows rows held tc tw n (n / 8))
def brTw (held : Nat → Int32) (tw : Nat → Bool) (n : Nat) : Nat → Bool := if held (n / 8 % 8) = nI (n / 8) then tw else va_up tw (n / 8 % 8) false
def brHeld (held : Nat → Int32) (n : Nat) : Nat → Int32 := if held (n / 8 % 8) = nI (n / 8) then held else upd held (n / 8 % 8) (nI (n / 8))
set_option maxHeartbeats 4000000 in
set_option maxRecDepth 100000 in
theorem c_Dir_find (l : Launch) (D : va_G) (ti : Nat → ClassId) (ad : Nat → Nat) (words mc mt : Nat → Int32) (mw : Nat → Bool) (rows held tc : Nat → Int32) (tw : Nat → Bool) (lines nx : Nat → Int32) (n : Nat) (hn : n < 512) : Cr l y_Dir_find (wl y_Dir_find b_Dir_find 4 (some .int)) (rmL 0) D clz (ty4 ti) [.ref (ad 3), .int (nI n)] (MW ad ti words mc mt mw rows held tc tw lines nx) (some (.int (mFind lines n))) := by
  refine Cr.ofF (plainFor_of_name (by decide)) (Nat.le_of_ble_eq_true rfl) ?_
  intro p9 e9 s9 m9 b9 me9 c9 ls S hr hlk hl hw
  obtain ⟨hx, hb, hml, hown, hts⟩ := id S
  have hl : lv_has ls 4 [(0, .ref (ad 3)), (1, .int (nI n))] := hl
  refine lv_iload_n hx hb d_Dir_find_0 rfl (lv_at hl 1 rfl) ?_
  refine lv_bipush (v := 16) hx hb d_Dir_find_1 (by decide) ?_
  refine lv_irem hx hb d_Dir_find_3 (by decide) ?_
  refine q_topi (z := nI (n % 16)) (pk_rem (a := n) (d := 16) (by omega) (by decide) (by decide)) ?_
  refine lv_iconst (v := 2) hx hb d_Dir_find_4 (by decide) ?_
  refine lv_imul hx hb d_Dir_find_5 ?_
  refine q_topi (z := nI ((n % 16) * 2)) (pk_mul (n % 16) 2) ?_
  refine lv_istore_n (lv' := [(2, .int (nI ((n % 16) * 2))), (0, .ref (ad 3)), (1, .int (nI n))]) hx hb d_Dir_find_6 rfl hl (by decide) rfl (fun ls hl => ?_)
  refine lv_iload_n hx hb d_Dir_find_7 rfl (lv_at hl 0 rfl) ?_
  refine lv_istore_n (lv' := [(3, .int (nI ((n % 16) * 2))), (2, .int (nI ((n % 16) * 2))), (0, .ref (ad 3)), (1, .int (nI n))]) hx hb d_Dir_find_8 rfl hl (by decide) rfl (fun ls hl => ?_)
  refine lv_iload_n hx hb d_Dir_find_9 rfl (lv_at hl 0 rfl) ?_
  refine lv_iload_n hx hb d_Dir_find_10 rfl (lv_at hl 1 rfl) ?_
  refine lv_iconst (v := 2) hx hb d_Dir_find_11 (by decide) ?_
  refine lv_iadd hx hb d_Dir_find_12 ?_
  refine q_topi (z := nI (((n % 16) * 2) + 2)) (nI_add ((n % 16) * 2) 2) ?_
  refine lv_icmp_ge hx hb d_Dir_find_13 rfl (fun h => absurd h (nI_ge (by omega) (by omega))) (fun _ => ?_)
  refine lv_aload_n hx hb d_Dir_find_16 rfl (lv_at hl 2 rfl) ?_
  refine q_get S hw ly_Dir 3 rfl rfl 0 (by decide) tb_1_106 rfl rfl d_Dir_find_17 ?_
  refine lv_iload_n hx hb d_Dir_find_20 rfl (lv_at hl 0 rfl) ?_
  refine q_ialdN (k := (n % 16) * 2) S hw 11 0 rfl rfl (by omega) (by decide) d_Dir_find_21 ?_
  refine lv_iload_n hx hb d_Dir_find_22 rfl (lv_at hl 3 rfl) ?_
  refine lv_icmp_ne hx hb d_Dir_find_23 rfl (fun h23 => ?_) (fun h23 => ?_)
  · refine lv_iinc (k := 0) (v := (nI ((n % 16) * 2 + 1))) (lv' := [(3, .int (nI ((n % 16) * 2 + 1))), (2, .int (nI ((n % 16) * 2))), (0, .ref (ad 3)), (1, .int (nI n))]) hx hb d_Dir_find_28 hl rfl (iinc1 ((n % 16) * 2)) (by decide) rfl (fun ls hl => ?_)
    refine lv_goto hx hb d_Dir_find_31 rfl ?_
    refine lv_iload_n hx hb d_Dir_find_9 rfl (lv_at hl 0 rfl) ?_
    refine lv_iload_n hx hb d_Dir_find_10 rfl (lv_at hl 1 rfl) ?_
    refine lv_iconst (v := 2) hx hb d_Dir_find_11 (by decide) ?_
    refine lv_iadd hx hb d_Dir_find_12 ?_
    refine q_topi (z := nI (((n % 16) * 2) + 2)) (nI_add ((n % 16) * 2) 2) ?_
    refine lv_icmp_ge hx hb d_Dir_find_13 rfl (fun h => absurd h (nI_ge (by omega) (by omega))) (fun _ => ?_)
    refine lv_aload_n hx hb d_Dir_find_16 rfl (lv_at hl 2 rfl) ?_
    refine q_get S hw ly_Dir 3 rfl rfl 0 (by decide) tb_1_106 rfl rfl d_Dir_find_17 ?_
    refine lv_iload_n hx hb d_Dir_find_20 rfl (lv_at hl 0 rfl) ?_
    refine q_ialdN (k := (n % 16) * 2 + 1) S hw 11 0 rfl rfl (by omega) (by decide) d_Dir_find_21 ?_
    refine lv_iload_n hx hb d_Dir_find_22 rfl (lv_at hl 3 rfl) ?_
    refine lv_icmp_ne hx hb d_Dir_find_23 rfl (fun h23_2 => ?_) (fun h23_2 => ?_)
    · refine lv_iinc (k := 0) (v := (nI ((n % 16) * 2 + 1 + 1))) (lv' := [(3, .int (nI ((n % 16) * 2 + 1 + 1))), (2, .int (nI ((n % 16) * 2))), (0, .ref (ad 3)), (1, .int (nI n))]) hx hb d_Dir_find_28 hl rfl (iinc1 ((n % 16) * 2 + 1)) (by decide) rfl (fun ls hl => ?_)
      refine lv_goto hx hb d_Dir_find_31 rfl ?_
      refine lv_iload_n hx hb d_Dir_find_9 rfl (lv_at hl 0 rfl) ?_
      refine lv_iload_n hx hb d_Dir_find_10 rfl (lv_at hl 1 rfl) ?_
      refine lv_iconst (v := 2) hx hb d_Dir_find_11 (by decide) ?_
      refine lv_iadd hx hb d_Dir_find_12 ?_
      refine q_topi (z := nI (((n % 16) * 2) + 2)) (nI_add ((n % 16) * 2) 2) ?_
      refine lv_icmp_ge hx hb d_Dir_find_13 rfl (fun _ => ?_) (fun h => absurd h (not_not_intro (nI_le (by omega) (by omega))))
      refine lv_iconst (v := -1) hx hb d_Dir_find_34 (by decide) ?_
      exact rd_i S hr hlk rfl d_Dir_find_35 (by simp [mFind, h23, h23_2])
    · refine lv_iload_n hx hb d_Dir_find_26 rfl (lv_at hl 0 rfl) ?_
      exact rd_i S hr hlk rfl d_Dir_find_27 (by simp [mFind, h23, h23_2])
  · refine lv_iload_n hx hb d_Dir_find_26 rfl (lv_at hl 0 rfl) ?_
    exact rd_i S hr hlk rfl d_Dir_find_27 (by simp [mFind, h23])
set_option maxHeartbeats 4000000 in
set_option maxRecDepth 100000 in
theorem c_Dir_victim (l : Launch) (D : va_G) (ti : Nat → ClassId) (ad : Nat → Nat) (words mc mt : Nat → Int32) (mw : Nat → Bool) (rows held tc : Nat → Int32) (tw : Nat → Bool) (lines nx : Nat → Int32) (n : Nat) (hn : n < 512) : Cr l y_Dir_victim (wl y_Dir_victim b_Dir_victim 3 (some .int)) (rmL 0) D clz (ty4 ti) [.ref (ad 3), .int (nI n)] (MW ad ti words mc mt mw rows held tc tw lines nx) (some (.int (mVic nx n))) := by
  refine Cr.ofF (plainFor_of_name (by decide)) (Nat.le_of_ble_eq_true rfl) ?_
  intro p9 e9 s9 m9 b9 me9 c9 ls S hr hlk hl hw
  obtain ⟨hx, hb, hml, hown, hts⟩ := id S
  have hl : lv_has ls 3 [(0, .ref (ad 3)), (1, .int (nI n))] := hl
  refine lv_iload_n hx hb d_Dir_victim_0 rfl (lv_at hl 1 rfl) ?_
  refine lv_bipush (v := 16) hx hb d_Dir_victim_1 (by decide) ?_
  refine lv_irem hx hb d_Dir_victim_3 (by decide) ?_
  refine q_topi (z := nI (n % 16)) (pk_rem (a := n) (d := 16) (by omega) (by decide) (by decide)) ?_
  refine lv_istore_n (lv' := [(2, .int (nI (n % 16))), (0, .ref (ad 3)), (1, .int (nI n))]) hx hb d_Dir_victim_4 rfl hl (by decide) rfl (fun ls hl => ?_)
  refine lv_iload_n hx hb d_Dir_victim_5 rfl (lv_at hl 0 rfl) ?_
  refine lv_iconst (v := 2) hx hb d_Dir_victim_6 (by decide) ?_
  refine lv_imul hx hb d_Dir_victim_7 ?_
  refine q_topi (z := nI ((n % 16) * 2)) (pk_mul (n % 16) 2) ?_
  refine lv_aload_n hx hb d_Dir_victim_8 rfl (lv_at hl 1 rfl) ?_
  refine q_get S hw ly_Dir 3 rfl rfl 1 (by decide) tb_1_108 rfl rfl d_Dir_victim_9 ?_
  refine lv_iload_n hx hb d_Dir_victim_12 rfl (lv_at hl 0 rfl) ?_
  refine q_ialdN (k := n % 16) S hw 12 0 rfl rfl (by omega) (by decide) d_Dir_victim_13 ?_
  refine lv_iadd hx hb d_Dir_victim_14 ?_
  exact rd_i S hr hlk rfl d_Dir_victim_15 (rfl)
set_option maxHeartbeats 4000000 in
set_option maxRecDepth 100000 in
theorem c_Dir_touch (l : Launch) (D : va_G) (ti : Nat → ClassId) (ad : Nat → Nat) (words mc mt : Nat → Int32) (mw : Nat → Bool) (rows held tc : Nat → Int32) (tw : Nat → Bool) (lines nx : Nat → Int32) (n : Nat) (hn : n < 32) : Cg l y_Dir_touch (wl y_Dir_touch b_Dir_touch 2 none) (rmL 0) D clz (ty4 ti) [.ref (ad 3), .int (nI n)] (MW ad ti words mc mt mw rows held tc tw lines nx) (fun _ : Unit => none) (fun _ => MW ad ti words mc mt mw rows held tc tw lines (upd nx (n / 2) (1 - nI (n % 2)))) (fun _ => True) := by
  refine Cg.ofF (plainFor_of_name (by decide)) (Nat.le_of_ble_eq_true rfl) ?_
  intro p9 e9 s9 m9 b9 me9 c9 ls S hr hlk hl hw
  obtain ⟨hx, hb, hml, hown, hts⟩ := id S
  have hl : lv_has ls 2 [(0, .ref (ad 3)), (1, .int (nI n))] := hl
  refine lv_aload_n hx hb d_Dir_touch_0 rfl (lv_at hl 0 rfl) ?_
  refine q_get S hw ly_Dir 3 rfl rfl 1 (by decide) tb_1_108 rfl rfl d_Dir_touch_1 ?_
  refine lv_iload_n hx hb d_Dir_touch_4 rfl (lv_at hl 1 rfl) ?_
  refine lv_iconst (v := 2) hx hb d_Dir_touch_5 (by decide) ?_
  refine lv_idiv hx hb d_Dir_touch_6 (by decide) ?_
  refine q_topi (z := nI (n / 2)) (pk_div (a := n) (d := 2) (by omega) (by decide) (by decide)) ?_
  refine lv_iconst (v := 1) hx hb d_Dir_touch_7 (by decide) ?_
  refine lv_iload_n hx hb d_Dir_touch_8 rfl (lv_at hl 1 rfl) ?_
  refine lv_iconst (v := 2) hx hb d_Dir_touch_9 (by decide) ?_
  refine lv_irem hx hb d_Dir_touch_10 (by decide) ?_
  refine q_topi (z := nI (n % 2)) (pk_rem (a := n) (d := 2) (by omega) (by decide) (by decide)) ?_
  refine lv_isub hx hb d_Dir_touch_11 ?_
  refine q_iastN (k := n / 2) S hw 12 0 rfl rfl (by omega) (by decide) d_Dir_touch_12 (fun H locs hw => ?_)
  have hw : Lv _ _ _ _ _ (MW ad ti words mc mt mw rows held tc tw lines (upd nx (n / 2) ((1 : Int32) - (nI (n % 2))))) _ _ _ := hw
  exact hw.rv S hr hlk d_Dir_touch_13 () (rfl) (trivial) (rfl)
set_option maxHeartbeats 4000000 in
set_option maxRecDepth 100000 in
theorem c_Dir_doubles (l : Launch) (D : va_G) (ti : Nat → ClassId) (ad : Nat → Nat) (words mc mt : Nat → Int32) (mw : Nat → Bool) (rows held tc : Nat → Int32) (tw : Nat → Bool) (lines nx : Nat → Int32) (hd : LD lines) : Cr l y_Dir_doubles (wl y_Dir_doubles b_Dir_doubles 4 (some .int)) (rmL 0) D clz (ty4 ti) [.ref (ad 3)] (MW ad ti words mc mt mw rows held tc tw lines nx) (some (.int 0)) := by
  refine Cr.ofF (plainFor_of_name (by decide)) (Nat.le_of_ble_eq_true rfl) ?_
  intro p9 e9 s9 m9 b9 me9 c9 ls S hr hlk hl hw
  obtain ⟨hx, hb, hml, hown, hts⟩ := id S
  have hl : lv_has ls 4 [(0, .ref (ad 3))] := hl
  refine lv_iconst (v := 0) hx hb d_Dir_doubles_0 (by decide) ?_
  refine lv_istore_n (lv' := [(1, .int (0 : Int32)), (0, .ref (ad 3))]) hx hb d_Dir_doubles_1 rfl hl (by decide) rfl (fun ls hl => ?_)
  refine lv_iconst (v := 0) hx hb d_Dir_doubles_2 (by decide) ?_
  refine lv_istore_n (lv' := [(2, .int (0 : Int32)), (1, .int (0 : Int32)), (0, .ref (ad 3))]) hx hb d_Dir_doubles_3 rfl hl (by decide) rfl (fun ls hl => ?_)
  refine q_loop (Z := Nat) (pcL := 4) (st := []) (nL := 4) (fun z => [(2, .int (nI z)), (1, .int (0 : Int32)), (0, .ref (ad 3))]) (fun z => z ≤ 32) (fun z => 32 - z) (fun z ls hI4 hl IH4 => ?_) 0 (by omega) (q_loc (l' := [(2, .int (nI 0)), (1, .int (0 : Int32)), (0, .ref (ad 3))]) (lv_sub (l' := [(2, .int (0 : Int32)), (1, .int (0 : Int32)), (0, .ref (ad 3))]) hl [0, 1, 2] rfl) (rfl))
  have hl : lv_has ls 4 [(2, .int (nI z)), (1, .int (0 : Int32)), (0, .ref (ad 3))] := hl
  refine lv_iload_n hx hb d_Dir_doubles_4 rfl (lv_at hl 0 rfl) ?_
  refine lv_bipush (v := 32) hx hb d_Dir_doubles_5 (by decide) ?_
  refine lv_icmp_ge hx hb d_Dir_doubles_7 rfl (fun h7 => ?_) (fun h7 => ?_)
  · refine lv_iload_n hx hb d_Dir_doubles_65 rfl (lv_at hl 1 rfl) ?_
    exact rd_i S hr hlk rfl d_Dir_doubles_66 (rfl)
  · have hz := lt_nge (c := 32) (by decide) hI4 h7
    refine lv_iload_n hx hb d_Dir_doubles_10 rfl (lv_at hl 0 rfl) ?_
    refine lv_iconst (v := 1) hx hb d_Dir_doubles_11 (by decide) ?_
    refine lv_iadd hx hb d_Dir_doubles_12 ?_
    refine q_topi (z := nI (z + 1)) (nI_add z 1) ?_
    refine lv_istore_n (lv' := [(3, .int (nI (z + 1))), (2, .int (nI z)), (1, .int (0 : Int32)), (0, .ref (ad 3))]) hx hb d_Dir_doubles_13 rfl hl (by decide) rfl (fun ls hl => ?_)
    refine q_loop (Z := Nat) (pcL := 14) (st := []) (nL := 4) (fun y => [(3, .int (nI y)), (2, .int (nI z)), (1, .int (0 : Int32)), (0, .ref (ad 3))]) (fun y => z < y ∧ y ≤ 32) (fun y => 32 - y) (fun y ls hI14 hl IH14 => ?_) (z + 1) (⟨by omega, by omega⟩) (lv_sub (l' := [(3, .int (nI (z + 1))), (2, .int (nI z)), (1, .int (0 : Int32)), (0, .ref (ad 3))]) hl [0, 1, 2, 3] rfl)
    have hl : lv_has ls 4 [(3, .int (nI y)), (2, .int (nI z)), (1, .int (0 : Int32)), (0, .ref (ad 3))] := hl
    refine lv_iload_n hx hb d_Dir_doubles_14 rfl (lv_at hl 0 rfl) ?_
    refine lv_bipush (v := 32) hx hb d_Dir_doubles_15 (by decide) ?_
    refine lv_icmp_ge hx hb d_Dir_doubles_17 rfl (fun h17 => ?_) (fun h17 => ?_)
    · refine lv_iinc (k := 1) (v := (nI (z + 1))) (lv' := [(2, .int (nI (z + 1))), (3, .int (nI y)), (1, .int (0 : Int32)), (0, .ref (ad 3))]) hx hb d_Dir_doubles_59 hl rfl (iinc1 z) (by decide) rfl (fun ls hl => ?_)
      refine lv_goto hx hb d_Dir_doubles_62 rfl ?_
      exact IH4 (z + 1) _ (by omega) (by omega) (lv_sub (l' := [(2, .int (nI (z + 1))), (1, .int (0 : Int32)), (0, .ref (ad 3))]) hl [0, 2, 3] rfl)
    · have hy := lt_nge (c := 32) (by decide) hI14.2 h17
      refine lv_iload_n hx hb d_Dir_doubles_20 rfl (lv_at hl 2 rfl) ?_
      refine lv_aload_n hx hb d_Dir_doubles_21 rfl (lv_at hl 3 rfl) ?_
      refine q_get S hw ly_Dir 3 rfl rfl 0 (by decide) tb_1_106 rfl rfl d_Dir_doubles_22 ?_
      refine lv_iload_n hx hb d_Dir_doubles_25 rfl (lv_at hl 1 rfl) ?_
      refine q_ialdN (k := z) S hw 11 0 rfl rfl (by omega) (by decide) d_Dir_doubles_26 ?_
      refine lv_iconst (v := -1) hx hb d_Dir_doubles_27 (by decide) ?_
      refine lv_icmp_eq hx hb d_Dir_doubles_28 rfl (fun h28 => ?_) (fun h28 => ?_)
      · refine lv_iconst (v := 0) hx hb d_Dir_doubles_50 (by decide) ?_
        refine lv_iadd hx hb d_Dir_doubles_51 ?_
        refine q_topi (z := (0 : Int32)) (by decide) ?_
        refine lv_istore_n (lv' := [(1, .int (0 : Int32)), (3, .int (nI y)), (2, .int (nI z)), (0, .ref (ad 3))]) hx hb d_Dir_doubles_52 rfl hl (by decide) rfl (fun ls hl => ?_)
        refine lv_iinc (k := 1) (v := (nI (y + 1))) (lv' := [(3, .int (nI (y + 1))), (1, .int (0 : Int32)), (2, .int (nI z)), (0, .ref (ad 3))]) hx hb d_Dir_doubles_53 hl rfl (iinc1 y) (by decide) rfl (fun ls hl => ?_)
        refine lv_goto hx hb d_Dir_doubles_56 rfl ?_
        exact IH14 (y + 1) _ (⟨by omega, by omega⟩) (by omega) (lv_sub (l' := [(3, .int (nI (y + 1))), (2, .int (nI z)), (1, .int (0 : Int32)), (0, .ref (ad 3))]) hl [0, 2, 1, 3] rfl)
      · refine lv_aload_n hx hb d_Dir_doubles_31 rfl (lv_at hl 3 rfl) ?_
        refine q_get S hw ly_Dir 3 rfl rfl 0 (by decide) tb_1_106 rfl rfl d_Dir_doubles_32 ?_
        refine lv_iload_n hx hb d_Dir_doubles_35 rfl (lv_at hl 1 rfl) ?_
        refine q_ialdN (k := z) S hw 11 0 rfl rfl (by omega) (by decide) d_Dir_doubles_36 ?_
        refine lv_aload_n hx hb d_Dir_doubles_37 rfl (lv_at hl 3 rfl) ?_
        refine q_get S hw ly_Dir 3 rfl rfl 0 (by decide) tb_1_106 rfl rfl d_Dir_doubles_38 ?_
        refine lv_iload_n hx hb d_Dir_doubles_41 rfl (lv_at hl 0 rfl) ?_
        refine q_ialdN (k := y) S hw 11 0 rfl rfl (by omega) (by decide) d_Dir_doubles_42 ?_
        refine lv_icmp_ne hx hb d_Dir_doubles_43 rfl (fun h43 => ?_) (fun h43 => ?_)
        · refine lv_iconst (v := 0) hx hb d_Dir_doubles_50 (by decide) ?_
          refine lv_iadd hx hb d_Dir_doubles_51 ?_
          refine q_topi (z := (0 : Int32)) (by decide) ?_
          refine lv_istore_n (lv' := [(1, .int (0 : Int32)), (3, .int (nI y)), (2, .int (nI z)), (0, .ref (ad 3))]) hx hb d_Dir_doubles_52 rfl hl (by decide) rfl (fun ls hl => ?_)
          refine lv_iinc (k := 1) (v := (nI (y + 1))) (lv' := [(3, .int (nI (y + 1))), (1, .int (0 : Int32)), (2, .int (nI z)), (0, .ref (ad 3))]) hx hb d_Dir_doubles_53 hl rfl (iinc1 y) (by decide) rfl (fun ls hl => ?_)
          refine lv_goto hx hb d_Dir_doubles_56 rfl ?_
          exact IH14 (y + 1) _ (⟨by omega, by omega⟩) (by omega) (lv_sub (l' := [(3, .int (nI (y + 1))), (2, .int (nI z)), (1, .int (0 : Int32)), (0, .ref (ad 3))]) hl [0, 2, 1, 3] rfl)
        · exact absurd h43 (hd z y hz hy hI14.1 h28)
set_option maxHeartbeats 4000000 in
set_option maxRecDepth 100000 in
theorem c_Int_bitCount (l : Launch) (D : va_G) (tys : List (ClassId × FieldType)) (x : Int32) : Cr l y_Int_bitCount (wl y_Int_bitCount b_Int_bitCount 1 (some .int)) (rmL 0) D clz tys [.int x] [] (some (.int (jpop x))) := by
  refine Cr.ofF (plainFor_of_name (by decide)) (Nat.le_of_ble_eq_true rfl) ?_
  intro p9 e9 s9 m9 b9 me9 c9 ls S hr hlk hl hw
  obtain ⟨hx, hb, hml, hown, hts⟩ := id S
  have hl : lv_has ls 1 [(0, .int x)] := hl
  refine lv_iload_n hx hb d_Int_bitCount_0 rfl (lv_at hl 0 rfl) ?_
  refine lv_iload_n hx hb d_Int_bitCount_1 rfl (lv_at hl 0 rfl) ?_
  refine lv_iconst (v := 1) hx hb d_Int_bitCount_2 (by decide) ?_
  refine lv_iushr (v := (jus x (1 : Int32))) hx hb d_Int_bitCount_3 rfl ?_
  refine lv_ldcw (v := 1431655765) hx hb hown (hts _ tb_2_178) d_Int_bitCount_4 ?_
  refine lv_iand hx hb d_Int_bitCount_7 ?_
  refine lv_isub hx hb d_Int_bitCount_8 ?_
  refine lv_istore_n (lv' := [(0, .int (x - ((jus x (1 : Int32)) &&& (1431655765 : Int32))))]) hx hb d_Int_bitCount_9 rfl hl (by decide) rfl (fun ls hl => ?_)
  have hl : lv_has ls 1 [(0, .int (jpop1 x))] := hl
  refine lv_iload_n hx hb d_Int_bitCount_10 rfl (lv_at hl 0 rfl) ?_
  refine lv_ldcw (v := 858993459) hx hb hown (hts _ tb_2_179) d_Int_bitCount_11 ?_
  refine lv_iand hx hb d_Int_bitCount_14 ?_
  refine lv_iload_n hx hb d_Int_bitCount_15 rfl (lv_at hl 0 rfl) ?_
  refine lv_iconst (v := 2) hx hb d_Int_bitCount_16 (by decide) ?_
  refine lv_iushr (v := (jus (jpop1 x) (2 : Int32))) hx hb d_Int_bitCount_17 rfl ?_
  refine lv_ldcw (v := 858993459) hx hb hown (hts _ tb_2_179) d_Int_bitCount_18 ?_
  refine lv_iand hx hb d_Int_bitCount_21 ?_
  refine lv_iadd hx hb d_Int_bitCount_22 ?_
  refine lv_istore_n (lv' := [(0, .int (((jpop1 x) &&& (858993459 : Int32)) + ((jus (jpop1 x) (2 : Int32)) &&& (858993459 : Int32))))]) hx hb d_Int_bitCount_23 rfl hl (by decide) rfl (fun ls hl => ?_)
  have hl : lv_has ls 1 [(0, .int (jpop2 (jpop1 x)))] := hl
  refine lv_iload_n hx hb d_Int_bitCount_24 rfl (lv_at hl 0 rfl) ?_
  refine lv_iload_n hx hb d_Int_bitCount_25 rfl (lv_at hl 0 rfl) ?_
  refine lv_iconst (v := 4) hx hb d_Int_bitCount_26 (by decide) ?_
  refine lv_iushr (v := (jus (jpop2 (jpop1 x)) (4 : Int32))) hx hb d_Int_bitCount_27 rfl ?_
  refine lv_iadd hx hb d_Int_bitCount_28 ?_
  refine lv_ldcw (v := 252645135) hx hb hown (hts _ tb_2_180) d_Int_bitCount_29 ?_
  refine lv_iand hx hb d_Int_bitCount_32 ?_
  refine lv_istore_n (lv' := [(0, .int (((jpop2 (jpop1 x)) + (jus (jpop2 (jpop1 x)) (4 : Int32))) &&& (252645135 : Int32)))]) hx hb d_Int_bitCount_33 rfl hl (by decide) rfl (fun ls hl => ?_)
  have hl : lv_has ls 1 [(0, .int (jpop3 (jpop2 (jpop1 x))))] := hl
  refine lv_iload_n hx hb d_Int_bitCount_34 rfl (lv_at hl 0 rfl) ?_
  refine lv_iload_n hx hb d_Int_bitCount_35 rfl (lv_at hl 0 rfl) ?_
  refine lv_bipush (v := 8) hx hb d_Int_bitCount_36 (by decide) ?_
  refine lv_iushr (v := (jus (jpop3 (jpop2 (jpop1 x))) (8 : Int32))) hx hb d_Int_bitCount_38 rfl ?_
  refine lv_iadd hx hb d_Int_bitCount_39 ?_
  refine lv_istore_n (lv' := [(0, .int ((jpop3 (jpop2 (jpop1 x))) + (jus (jpop3 (jpop2 (jpop1 x))) (8 : Int32))))]) hx hb d_Int_bitCount_40 rfl hl (by decide) rfl (fun ls hl => ?_)
  have hl : lv_has ls 1 [(0, .int (jpop4 (jpop3 (jpop2 (jpop1 x)))))] := hl
  refine lv_iload_n hx hb d_Int_bitCount_41 rfl (lv_at hl 0 rfl) ?_
  refine lv_iload_n hx hb d_Int_bitCount_42 rfl (lv_at hl 0 rfl) ?_
  refine lv_bipush (v := 16) hx hb d_Int_bitCount_43 (by decide) ?_
  refine lv_iushr (v := (jus (jpop4 (jpop3 (jpop2 (jpop1 x)))) (16 : Int32))) hx hb d_Int_bitCount_45 rfl ?_
  refine lv_iadd hx hb d_Int_bitCount_46 ?_
  refine lv_istore_n (lv' := [(0, .int ((jpop4 (jpop3 (jpop2 (jpop1 x)))) + (jus (jpop4 (jpop3 (jpop2 (jpop1 x)))) (16 : Int32))))]) hx hb d_Int_bitCount_47 rfl hl (by decide) rfl (fun ls hl => ?_)
  have hl : lv_has ls 1 [(0, .int (jpop5 (jpop4 (jpop3 (jpop2 (jpop1 x))))))] := hl
  refine lv_iload_n hx hb d_Int_bitCount_48 rfl (lv_at hl 0 rfl) ?_
  refine lv_bipush (v := 63) hx hb d_Int_bitCount_49 (by decide) ?_
  refine lv_iand hx hb d_Int_bitCount_51 ?_
  exact rd_i S hr hlk rfl d_Int_bitCount_52 (rfl)
set_option maxHeartbeats 4000000 in
set_option maxRecDepth 100000 in
theorem c_Tag_ofLine (l : Launch) (D : va_G) (ti : Nat → ClassId) (ad : Nat → Nat) (words mc mt : Nat → Int32) (mw : Nat → Bool) (rows held tc : Nat → Int32) (tw : Nat → Bool) (lines nx : Nat → Int32) (n : Nat) (hn : n < 512) : Cr l y_Tag_ofLine (wl y_Tag_ofLine b_Tag_ofLine 3 (some .int)) (rmL 0) D clz (ty4 ti) [.ref (ad 2), .int (nI n)] (MW ad ti words mc mt mw rows held tc tw lines nx) (some (.int (tOf tc n))) := by
  refine Cr.ofF (plainFor_of_name (by decide)) (Nat.le_of_ble_eq_true rfl) ?_
  intro p9 e9 s9 m9 b9 me9 c9 ls S hr hlk hl hw
  obtain ⟨hx, hb, hml, hown, hts⟩ := id S
  have hl : lv_has ls 3 [(0, .ref (ad 2)), (1, .int (nI n))] := hl
  refine lv_iconst (v := 4) hx hb d_Tag_ofLine_0 (by decide) ?_
  refine lv_iload_n hx hb d_Tag_ofLine_1 rfl (lv_at hl 1 rfl) ?_
  refine lv_bipush (v := 8) hx hb d_Tag_ofLine_2 (by decide) ?_
  refine lv_irem hx hb d_Tag_ofLine_4 (by decide) ?_
  refine q_topi (z := nI (n % 8)) (pk_rem (a := n) (d := 8) (by omega) (by decide) (by decide)) ?_
  refine lv_imul hx hb d_Tag_ofLine_5 ?_
  refine q_topi (z := nI (4 * (n % 8))) (pk_mul 4 (n % 8)) ?_
  refine lv_istore_n (lv' := [(2, .int (nI (4 * (n % 8)))), (0, .ref (ad 2)), (1, .int (nI n))]) hx hb d_Tag_ofLine_6 rfl hl (by decide) rfl (fun ls hl => ?_)
  refine lv_aload_n hx hb d_Tag_ofLine_7 rfl (lv_at hl 1 rfl) ?_
  refine q_get S hw ly_Tag 2 rfl rfl 2 (by decide) tb_1_87 rfl rfl d_Tag_ofLine_8 ?_
  refine lv_iload_n hx hb d_Tag_ofLine_11 rfl (lv_at hl 2 rfl) ?_
  refine lv_bipush (v := 8) hx hb d_Tag_ofLine_12 (by decide) ?_
  refine lv_idiv hx hb d_Tag_ofLine_14 (by decide) ?_
  refine q_topi (z := nI (n / 8)) (pk_div (a := n) (d := 8) (by omega) (by decide) (by decide)) ?_
  refine lv_bipush (v := 8) hx hb d_Tag_ofLine_15 (by decide) ?_
  refine lv_irem hx hb d_Tag_ofLine_17 (by decide) ?_
  refine q_topi (z := nI ((n / 8) % 8)) (pk_rem (a := n / 8) (d := 8) (by omega) (by decide) (by decide)) ?_
  refine q_ialdN (k := (n / 8) % 8) S hw 9 0 rfl rfl (by omega) (by decide) d_Tag_ofLine_18 ?_
  refine lv_iload_n hx hb d_Tag_ofLine_19 rfl (lv_at hl 0 rfl) ?_
  refine lv_iushr (v := (jus (tc ((n / 8) % 8)) (nI (4 * (n % 8))))) hx hb d_Tag_ofLine_20 rfl ?_
  refine lv_bipush (v := 15) hx hb d_Tag_ofLine_21 (by decide) ?_
  refine lv_iand hx hb d_Tag_ofLine_23 ?_
  exact rd_i S hr hlk rfl d_Tag_ofLine_24 (rfl)
set_option maxHeartbeats 4000000 in
set_option maxRecDepth 100000 in
theorem c_Tag_seenOfLine (l : Launch) (D : va_G) (ti : Nat → ClassId) (ad : Nat → Nat) (words mc mt : Nat → Int32) (mw : Nat → Bool) (rows held tc : Nat → Int32) (tw : Nat → Bool) (lines nx : Nat → Int32) (n : Nat) (hn : n < 512) : Cr l y_Tag_seenOfLine (wl y_Tag_seenOfLine b_Tag_seenOfLine 6 (some .int)) (rmL 0) D clz (ty4 ti) [.ref (ad 2), .int (nI n)] (MW ad ti words mc mt mw rows held tc tw lines nx) (some (.int (tSeen rows held tc n))) := by
  refine Cr.ofF (plainFor_of_name (by decide)) (Nat.le_of_ble_eq_true rfl) ?_
  intro p9 e9 s9 m9 b9 me9 c9 ls S hr hlk hl hw
  obtain ⟨hx, hb, hml, hown, hts⟩ := id S
  have hl : lv_has ls 6 [(0, .ref (ad 2)), (1, .int (nI n))] := hl
  refine lv_iload_n hx hb d_Tag_seenOfLine_0 rfl (lv_at hl 1 rfl) ?_
  refine lv_bipush (v := 8) hx hb d_Tag_seenOfLine_1 (by decide) ?_
  refine lv_idiv hx hb d_Tag_seenOfLine_3 (by decide) ?_
  refine q_topi (z := nI (n / 8)) (pk_div (a := n) (d := 8) (by omega) (by decide) (by decide)) ?_
  refine lv_istore_n (lv' := [(2, .int (nI (n / 8))), (0, .ref (ad 2)), (1, .int (nI n))]) hx hb d_Tag_seenOfLine_4 rfl hl (by decide) rfl (fun ls hl => ?_)
  refine lv_iload_n hx hb d_Tag_seenOfLine_5 rfl (lv_at hl 0 rfl) ?_
  refine lv_bipush (v := 8) hx hb d_Tag_seenOfLine_6 (by decide) ?_
  refine lv_irem hx hb d_Tag_seenOfLine_8 (by decide) ?_
  refine q_topi (z := nI ((n / 8) % 8)) (pk_rem (a := n / 8) (d := 8) (by omega) (by decide) (by decide)) ?_
  refine lv_istore_n (lv' := [(3, .int (nI ((n / 8) % 8))), (2, .int (nI (n / 8))), (0, .ref (ad 2)), (1, .int (nI n))]) hx hb d_Tag_seenOfLine_9 rfl hl (by decide) rfl (fun ls hl => ?_)
  refine lv_aload_n hx hb d_Tag_seenOfLine_10 rfl (lv_at hl 2 rfl) ?_
  refine q_get S hw ly_Tag 2 rfl rfl 1 (by decide) tb_1_86 rfl rfl d_Tag_seenOfLine_11 ?_
  refine lv_iload_n hx hb d_Tag_seenOfLine_14 rfl (lv_at hl 0 rfl) ?_
  refine q_ialdN (k := (n / 8) % 8) S hw 8 0 rfl rfl (by omega) (by decide) d_Tag_seenOfLine_15 ?_
  refine lv_iload_n hx hb d_Tag_seenOfLine_16 rfl (lv_at hl 1 rfl) ?_
  refine lv_icmp_ne hx hb d_Tag_seenOfLine_17 rfl (fun h17 => ?_) (fun h17 => ?_)
  · refine lv_aload_n hx hb d_Tag_seenOfLine_29 rfl (lv_at hl 2 rfl) ?_
    refine q_get S hw ly_Tag 2 rfl rfl 0 (by decide) tb_1_85 rfl rfl d_Tag_seenOfLine_30 ?_
    refine lv_iload_n hx hb d_Tag_seenOfLine_33 rfl (lv_at hl 1 rfl) ?_
    refine q_ialdN (k := n / 8) S hw 7 0 rfl rfl (by omega) (by decide) d_Tag_seenOfLine_34 ?_
    refine lv_istore (lv' := [(4, .int (rows (n / 8))), (3, .int (nI ((n / 8) % 8))), (2, .int (nI (n / 8))), (0, .ref (ad 2)), (1, .int (nI n))]) hx hb d_Tag_seenOfLine_35 hl (by decide) rfl (fun ls hl => ?_)
    refine lv_iconst (v := 4) hx hb d_Tag_seenOfLine_37 (by decide) ?_
    refine lv_iload_n hx hb d_Tag_seenOfLine_38 rfl (lv_at hl 4 rfl) ?_
    refine lv_bipush (v := 8) hx hb d_Tag_seenOfLine_39 (by decide) ?_
    refine lv_irem hx hb d_Tag_seenOfLine_41 (by decide) ?_
    refine q_topi (z := nI (n % 8)) (pk_rem (a := n) (d := 8) (by omega) (by decide) (by decide)) ?_
    refine lv_imul hx hb d_Tag_seenOfLine_42 ?_
    refine q_topi (z := nI (4 * (n % 8))) (pk_mul 4 (n % 8)) ?_
    refine lv_istore (lv' := [(5, .int (nI (4 * (n % 8)))), (4, .int (rows (n / 8))), (3, .int (nI ((n / 8) % 8))), (2, .int (nI (n / 8))), (0, .ref (ad 2)), (1, .int (nI n))]) hx hb d_Tag_seenOfLine_43 hl (by decide) rfl (fun ls hl => ?_)
    refine lv_iload hx hb d_Tag_seenOfLine_45 (lv_at hl 1 rfl) ?_
    refine lv_iload hx hb d_Tag_seenOfLine_47 (lv_at hl 0 rfl) ?_
    refine lv_iushr (v := (jus (rows (n / 8)) (nI (4 * (n % 8))))) hx hb d_Tag_seenOfLine_49 rfl ?_
    refine lv_bipush (v := 15) hx hb d_Tag_seenOfLine_50 (by decide) ?_
    refine lv_iand hx hb d_Tag_seenOfLine_52 ?_
    exact rd_i S hr hlk rfl d_Tag_seenOfLine_53 (by simp [tSeen, tAt, h17])
  · refine lv_aload_n hx hb d_Tag_seenOfLine_20 rfl (lv_at hl 2 rfl) ?_
    refine q_get S hw ly_Tag 2 rfl rfl 2 (by decide) tb_1_87 rfl rfl d_Tag_seenOfLine_21 ?_
    refine lv_iload_n hx hb d_Tag_seenOfLine_24 rfl (lv_at hl 0 rfl) ?_
    refine q_ialdN (k := (n / 8) % 8) S hw 9 0 rfl rfl (by omega) (by decide) d_Tag_seenOfLine_25 ?_
    refine lv_goto hx hb d_Tag_seenOfLine_26 rfl ?_
    refine lv_istore (lv' := [(4, .int (tc ((n / 8) % 8))), (3, .int (nI ((n / 8) % 8))), (2, .int (nI (n / 8))), (0, .ref (ad 2)), (1, .int (nI n))]) hx hb d_Tag_seenOfLine_35 hl (by decide) rfl (fun ls hl => ?_)
    refine lv_iconst (v := 4) hx hb d_Tag_seenOfLine_37 (by decide) ?_
    refine lv_iload_n hx hb d_Tag_seenOfLine_38 rfl (lv_at hl 4 rfl) ?_
    refine lv_bipush (v := 8) hx hb d_Tag_seenOfLine_39 (by decide) ?_
    refine lv_irem hx hb d_Tag_seenOfLine_41 (by decide) ?_
    refine q_topi (z := nI (n % 8)) (pk_rem (a := n) (d := 8) (by omega) (by decide) (by decide)) ?_
    refine lv_imul hx hb d_Tag_seenOfLine_42 ?_
    refine q_topi (z := nI (4 * (n % 8))) (pk_mul 4 (n % 8)) ?_
    refine lv_istore (lv' := [(5, .int (nI (4 * (n % 8)))), (4, .int (tc ((n / 8) % 8))), (3, .int (nI ((n / 8) % 8))), (2, .int (nI (n / 8))), (0, .ref (ad 2)), (1, .int (nI n))]) hx hb d_Tag_seenOfLine_43 hl (by decide) rfl (fun ls hl => ?_)
    refine lv_iload hx hb d_Tag_seenOfLine_45 (lv_at hl 1 rfl) ?_
    refine lv_iload hx hb d_Tag_seenOfLine_47 (lv_at hl 0 rfl) ?_
    refine lv_iushr (v := (jus (tc ((n / 8) % 8)) (nI (4 * (n % 8))))) hx hb d_Tag_seenOfLine_49 rfl ?_
    refine lv_bipush (v := 15) hx hb d_Tag_seenOfLine_50 (by decide) ?_
    refine lv_iand hx hb d_Tag_seenOfLine_52 ?_
    exact rd_i S hr hlk rfl d_Tag_seenOfLine_53 (by simp [tSeen, tAt, h17])
set_option maxHeartbeats 4000000 in
set_option maxRecDepth 100000 in
theorem c_Tag_keep (l : Launch) (D : va_G) (ti : Nat → ClassId) (ad : Nat → Nat) (words mc mt : Nat → Int32) (mw : Nat → Bool) (rows held tc : Nat → Int32) (tw : Nat → Bool) (lines nx : Nat → Int32) (n : Nat) (hn : n < 512) (t : Int32) : Cg l y_Tag_keep (wl y_Tag_keep b_Tag_keep 5 none) (rmL 0) D clz (ty4 ti) [.ref (ad 2), .int (nI n), .int t] (MW ad ti words mc mt mw rows held tc tw lines nx) (fun _ : Unit => none) (fun _ => MW ad ti words mc mt mw rows held (kpTc tc n t) (va_up tw (n / 8 % 8) true) lines nx) (fun _ => True) := by
  refine Cg.ofF (plainFor_of_name (by decide)) (Nat.le_of_ble_eq_true rfl) ?_
  intro p9 e9 s9 m9 b9 me9 c9 ls S hr hlk hl hw
  obtain ⟨hx, hb, hml, hown, hts⟩ := id S
  have hl : lv_has ls 5 [(0, .ref (ad 2)), (1, .int (nI n)), (2, .int t)] := hl
  refine lv_iload_n hx hb d_Tag_keep_0 rfl (lv_at hl 1 rfl) ?_
  refine lv_bipush (v := 8) hx hb d_Tag_keep_1 (by decide) ?_
  refine lv_idiv hx hb d_Tag_keep_3 (by decide) ?_
  refine q_topi (z := nI (n / 8)) (pk_div (a := n) (d := 8) (by omega) (by decide) (by decide)) ?_
  refine lv_bipush (v := 8) hx hb d_Tag_keep_4 (by decide) ?_
  refine lv_irem hx hb d_Tag_keep_6 (by decide) ?_
  refine q_topi (z := nI ((n / 8) % 8)) (pk_rem (a := n / 8) (d := 8) (by omega) (by decide) (by decide)) ?_
  refine lv_istore_n (lv' := [(3, .int (nI ((n / 8) % 8))), (0, .ref (ad 2)), (1, .int (nI n)), (2, .int t)]) hx hb d_Tag_keep_7 rfl hl (by decide) rfl (fun ls hl => ?_)
  refine lv_iconst (v := 4) hx hb d_Tag_keep_8 (by decide) ?_
  refine lv_iload_n hx hb d_Tag_keep_9 rfl (lv_at hl 2 rfl) ?_
  refine lv_bipush (v := 8) hx hb d_Tag_keep_10 (by decide) ?_
  refine lv_irem hx hb d_Tag_keep_12 (by decide) ?_
  refine q_topi (z := nI (n % 8)) (pk_rem (a := n) (d := 8) (by omega) (by decide) (by decide)) ?_
  refine lv_imul hx hb d_Tag_keep_13 ?_
  refine q_topi (z := nI (4 * (n % 8))) (pk_mul 4 (n % 8)) ?_
  refine lv_istore (lv' := [(4, .int (nI (4 * (n % 8)))), (3, .int (nI ((n / 8) % 8))), (0, .ref (ad 2)), (1, .int (nI n)), (2, .int t)]) hx hb d_Tag_keep_14 hl (by decide) rfl (fun ls hl => ?_)
  refine lv_aload_n hx hb d_Tag_keep_16 rfl (lv_at hl 2 rfl) ?_
  refine q_get S hw ly_Tag 2 rfl rfl 2 (by decide) tb_1_87 rfl rfl d_Tag_keep_17 ?_
  refine lv_iload_n hx hb d_Tag_keep_20 rfl (lv_at hl 1 rfl) ?_
  refine lv_aload_n hx hb d_Tag_keep_21 rfl (lv_at hl 2 rfl) ?_
  refine q_get S hw ly_Tag 2 rfl rfl 2 (by decide) tb_1_87 rfl rfl d_Tag_keep_22 ?_
  refine lv_iload_n hx hb d_Tag_keep_25 rfl (lv_at hl 1 rfl) ?_
  refine q_ialdN (k := (n / 8) % 8) S hw 9 0 rfl rfl (by omega) (by decide) d_Tag_keep_26 ?_
  refine lv_bipush (v := 15) hx hb d_Tag_keep_27 (by decide) ?_
  refine lv_iload hx hb d_Tag_keep_29 (lv_at hl 0 rfl) ?_
  refine lv_ishl hx hb d_Tag_keep_31 ?_
  refine lv_iconst (v := -1) hx hb d_Tag_keep_32 (by decide) ?_
  refine lv_ixor hx hb d_Tag_keep_33 ?_
  refine lv_iand hx hb d_Tag_keep_34 ?_
  refine lv_iload_n hx hb d_Tag_keep_35 rfl (lv_at hl 4 rfl) ?_
  refine lv_iload hx hb d_Tag_keep_36 (lv_at hl 0 rfl) ?_
  refine lv_ishl hx hb d_Tag_keep_38 ?_
  refine lv_ior hx hb d_Tag_keep_39 ?_
  refine q_iastN (k := (n / 8) % 8) S hw 9 0 rfl rfl (by omega) (by decide) d_Tag_keep_40 (fun H locs hw => ?_)
  have hw : Lv _ _ _ _ _ (MW ad ti words mc mt mw rows held (upd tc ((n / 8) % 8) (((tc ((n / 8) % 8)) &&& (((15 : Int32) <<< ((nI (4 * (n % 8))) &&& 31)) ^^^ (-1 : Int32))) ||| (t <<< ((nI (4 * (n % 8))) &&& 31)))) tw lines nx) _ _ _ := hw
  refine lv_aload_n hx hb d_Tag_keep_41 rfl (lv_at hl 2 rfl) ?_
  refine q_get S hw ly_Tag 2 rfl rfl 3 (by decide) tb_1_88 rfl rfl d_Tag_keep_42 ?_
  refine lv_iload_n hx hb d_Tag_keep_45 rfl (lv_at hl 1 rfl) ?_
  refine lv_iconst (v := 1) hx hb d_Tag_keep_46 (by decide) ?_
  refine q_zastN (k := (n / 8) % 8) S hw 10 1 rfl rfl true (by omega) (by decide) d_Tag_keep_47 (fun H locs hw => ?_)
  have hw : Lv _ _ _ _ _ (MW ad ti words mc mt mw rows held (upd tc ((n / 8) % 8) (((tc ((n / 8) % 8)) &&& (((15 : Int32) <<< ((nI (4 * (n % 8))) &&& 31)) ^^^ (-1 : Int32))) ||| (t <<< ((nI (4 * (n % 8))) &&& 31)))) (va_up tw ((n / 8) % 8) true) lines nx) _ _ _ := hw
  exact hw.rv S hr hlk d_Tag_keep_48 () (rfl) (trivial) (rfl)
set_option maxHeartbeats 4000000 in
set_option maxRecDepth 100000 in
theorem c_Tag_bring (l : Launch) (D : va_G) (ti : Nat → ClassId) (ad : Nat → Nat) (words mc mt : Nat → Int32) (mw : Nat → Bool) (rows held tc : Nat → Int32) (tw : Nat → Bool) (lines nx : Nat → Int32) (n : Nat) (hn : n < 512) (hT : TI rows held tc tw) : Cg l y_Tag_bring (wl y_Tag_bring b_Tag_bring 4 none) (rmL 0) D clz (ty4 ti) [.ref (ad 2), .int (nI n)] (MW ad ti words mc mt mw rows held tc tw lines nx) (fun _ : Unit => none) (fun _ => MW ad ti words mc mt mw (brRows rows held tc tw n) (brHeld held n) (brTc rows held tc tw n) (brTw held tw n) lines nx) (fun _ => True) := by
  refine Cg.ofF (plainFor_of_name (by decide)) (Nat.le_of_ble_eq_true rfl) ?_
  intro p9 e9 s9 m9 b9 me9 c9 ls S hr hlk hl hw
  obtain ⟨hx, hb, hml, hown, hts⟩ := id S
  have hl : lv_has ls 4 [(0, .ref (ad 2)), (1, .int (nI n))] := hl
  refine lv_iload_n hx hb d_Tag_bring_0 rfl (lv_at hl 1 rfl) ?_
  refine lv_bipush (v := 8) hx hb d_Tag_bring_1 (by decide) ?_
  refine lv_idiv hx hb d_Tag_bring_3 (by decide) ?_
  refine q_topi (z := nI (n / 8)) (pk_div (a := n) (d := 8) (by omega) (by decide) (by decide)) ?_
  refine lv_istore_n (lv' := [(2, .int (nI (n / 8))), (0, .ref (ad 2)), (1, .int (nI n))]) hx hb d_Tag_bring_4 rfl hl (by decide) rfl (fun ls hl => ?_)
  refine lv_iload_n hx hb d_Tag_bring_5 rfl (lv_at hl 0 rfl) ?_
  refine lv_bipush (v := 8) hx hb d_Tag_bring_6 (by decide) ?_
  refine lv_irem hx hb d_Tag_bring_8 (by decide) ?_
  refine q_topi (z := nI ((n / 8) % 8)) (pk_rem (a := n / 8) (d := 8) (by omega) (by decide) (by decide)) ?_
  refine lv_istore_n (lv' := [(3, .int (nI ((n / 8) % 8))), (2, .int (nI (n / 8))), (0, .ref (ad 2)), (1, .int (nI n))]) hx hb d_Tag_bring_9 rfl hl (by decide) rfl (fun ls hl => ?_)
  refine lv_aload_n hx hb d_Tag_bring_10 rfl (lv_at hl 2 rfl) ?_
  refine q_get S hw ly_Tag 2 rfl rfl 1 (by decide) tb_1_86 rfl rfl d_Tag_bring_11 ?_
  refine lv_iload_n hx hb d_Tag_bring_14 rfl (lv_at hl 0 rfl) ?_
  refine q_ialdN (k := (n / 8) % 8) S hw 8 0 rfl rfl (by omega) (by decide) d_Tag_bring_15 ?_
  refine lv_iload_n hx hb d_Tag_bring_16 rfl (lv_at hl 1 rfl) ?_
  refine lv_icmp_eq hx hb d_Tag_bring_17 rfl (fun h17 => ?_) (fun h17 => ?_)
  · exact hw.rv S hr hlk d_Tag_bring_82 () (rfl) (trivial) (by simp [brRows, brHeld, brTc, brTw, h17])
  · refine lv_aload_n hx hb d_Tag_bring_20 rfl (lv_at hl 2 rfl) ?_
    refine q_get S hw ly_Tag 2 rfl rfl 1 (by decide) tb_1_86 rfl rfl d_Tag_bring_21 ?_
    refine lv_iload_n hx hb d_Tag_bring_24 rfl (lv_at hl 0 rfl) ?_
    refine q_ialdN (k := (n / 8) % 8) S hw 8 0 rfl rfl (by omega) (by decide) d_Tag_bring_25 ?_
    refine lv_iconst (v := -1) hx hb d_Tag_bring_26 (by decide) ?_
    refine lv_icmp_eq hx hb d_Tag_bring_27 rfl (fun h27 => ?_) (fun h27 => ?_)
    · refine lv_aload_n hx hb d_Tag_bring_56 rfl (lv_at hl 2 rfl) ?_
      refine q_get S hw ly_Tag 2 rfl rfl 2 (by decide) tb_1_87 rfl rfl d_Tag_bring_57 ?_
      refine lv_iload_n hx hb d_Tag_bring_60 rfl (lv_at hl 0 rfl) ?_
      refine lv_aload_n hx hb d_Tag_bring_61 rfl (lv_at hl 2 rfl) ?_
      refine q_get S hw ly_Tag 2 rfl rfl 0 (by decide) tb_1_85 rfl rfl d_Tag_bring_62 ?_
      refine lv_iload_n hx hb d_Tag_bring_65 rfl (lv_at hl 1 rfl) ?_
      refine q_ialdN (k := n / 8) S hw 7 0 rfl rfl (by omega) (by decide) d_Tag_bring_66 ?_
      refine q_iastN (k := (n / 8) % 8) S hw 9 0 rfl rfl (by omega) (by decide) d_Tag_bring_67 (fun H locs hw => ?_)
      have hw : Lv _ _ _ _ _ (MW ad ti words mc mt mw rows held (upd tc ((n / 8) % 8) (rows (n / 8))) tw lines nx) _ _ _ := hw
      refine lv_aload_n hx hb d_Tag_bring_68 rfl (lv_at hl 2 rfl) ?_
      refine q_get S hw ly_Tag 2 rfl rfl 3 (by decide) tb_1_88 rfl rfl d_Tag_bring_69 ?_
      refine lv_iload_n hx hb d_Tag_bring_72 rfl (lv_at hl 0 rfl) ?_
      refine lv_iconst (v := 0) hx hb d_Tag_bring_73 (by decide) ?_
      refine q_zastN (k := (n / 8) % 8) S hw 10 1 rfl rfl false (by omega) (by decide) d_Tag_bring_74 (fun H locs hw => ?_)
      have hw : Lv _ _ _ _ _ (MW ad ti words mc mt mw rows held (upd tc ((n / 8) % 8) (rows (n / 8))) (va_up tw ((n / 8) % 8) false) lines nx) _ _ _ := hw
      refine lv_aload_n hx hb d_Tag_bring_75 rfl (lv_at hl 2 rfl) ?_
      refine q_get S hw ly_Tag 2 rfl rfl 1 (by decide) tb_1_86 rfl rfl d_Tag_bring_76 ?_
      refine lv_iload_n hx hb d_Tag_bring_79 rfl (lv_at hl 0 rfl) ?_
      refine lv_iload_n hx hb d_Tag_bring_80 rfl (lv_at hl 1 rfl) ?_
      refine q_iastN (k := (n / 8) % 8) S hw 8 0 rfl rfl (by omega) (by decide) d_Tag_bring_81 (fun H locs hw => ?_)
      have hw : Lv _ _ _ _ _ (MW ad ti words mc mt mw rows (upd held ((n / 8) % 8) (nI (n / 8))) (upd tc ((n / 8) % 8) (rows (n / 8))) (va_up tw ((n / 8) % 8) false) lines nx) _ _ _ := hw
      exact hw.rv S hr hlk d_Tag_bring_82 () (rfl) (trivial) (by simp only [brRows, brHeld, brTc, brTw, if_neg h17, if_pos h27])
    · refine lv_aload_n hx hb d_Tag_bring_30 rfl (lv_at hl 2 rfl) ?_
      refine q_get S hw ly_Tag 2 rfl rfl 3 (by decide) tb_1_88 rfl rfl d_Tag_bring_31 ?_
      refine lv_iload_n hx hb d_Tag_bring_34 rfl (lv_at hl 0 rfl) ?_
      refine q_zaldN (k := (n / 8) % 8) S hw 10 1 rfl rfl (by omega) (by decide) d_Tag_bring_35 ?_
      refine q_ifz_eq S d_Tag_bring_36 rfl (fun h36 => ?_) (fun h36 => ?_)
      · refine lv_aload_n hx hb d_Tag_bring_56 rfl (lv_at hl 2 rfl) ?_
        refine q_get S hw ly_Tag 2 rfl rfl 2 (by decide) tb_1_87 rfl rfl d_Tag_bring_57 ?_
        refine lv_iload_n hx hb d_Tag_bring_60 rfl (lv_at hl 0 rfl) ?_
        refine lv_aload_n hx hb d_Tag_bring_61 rfl (lv_at hl 2 rfl) ?_
        refine q_get S hw ly_Tag 2 rfl rfl 0 (by decide) tb_1_85 rfl rfl d_Tag_bring_62 ?_
        refine lv_iload_n hx hb d_Tag_bring_65 rfl (lv_at hl 1 rfl) ?_
        refine q_ialdN (k := n / 8) S hw 7 0 rfl rfl (by omega) (by decide) d_Tag_bring_66 ?_
        refine q_iastN (k := (n / 8) % 8) S hw 9 0 rfl rfl (by omega) (by decide) d_Tag_bring_67 (fun H locs hw => ?_)
        have hw : Lv _ _ _ _ _ (MW ad ti words mc mt mw rows held (upd tc ((n / 8) % 8) (rows (n / 8))) tw lines nx) _ _ _ := hw
        refine lv_aload_n hx hb d_Tag_bring_68 rfl (lv_at hl 2 rfl) ?_
        refine q_get S hw ly_Tag 2 rfl rfl 3 (by decide) tb_1_88 rfl rfl d_Tag_bring_69 ?_
        refine lv_iload_n hx hb d_Tag_bring_72 rfl (lv_at hl 0 rfl) ?_
        refine lv_iconst (v := 0) hx hb d_Tag_bring_73 (by decide) ?_
        refine q_zastN (k := (n / 8) % 8) S hw 10 1 rfl rfl false (by omega) (by decide) d_Tag_bring_74 (fun H locs hw => ?_)
        have hw : Lv _ _ _ _ _ (MW ad ti words mc mt mw rows held (upd tc ((n / 8) % 8) (rows (n / 8))) (va_up tw ((n / 8) % 8) false) lines nx) _ _ _ := hw
        refine lv_aload_n hx hb d_Tag_bring_75 rfl (lv_at hl 2 rfl) ?_
        refine q_get S hw ly_Tag 2 rfl rfl 1 (by decide) tb_1_86 rfl rfl d_Tag_bring_76 ?_
        refine lv_iload_n hx hb d_Tag_bring_79 rfl (lv_at hl 0 rfl) ?_
        refine lv_iload_n hx hb d_Tag_bring_80 rfl (lv_at hl 1 rfl) ?_
        refine q_iastN (k := (n / 8) % 8) S hw 8 0 rfl rfl (by omega) (by decide) d_Tag_bring_81 (fun H locs hw => ?_)
        have hw : Lv _ _ _ _ _ (MW ad ti words mc mt mw rows (upd held ((n / 8) % 8) (nI (n / 8))) (upd tc ((n / 8) % 8) (rows (n / 8))) (va_up tw ((n / 8) % 8) false) lines nx) _ _ _ := hw
        exact hw.rv S hr hlk d_Tag_bring_82 () (rfl) (trivial) (by simp [brRows, brHeld, brTc, brTw, h17, h27, h36])
      · refine lv_aload_n hx hb d_Tag_bring_39 rfl (lv_at hl 2 rfl) ?_
        refine q_get S hw ly_Tag 2 rfl rfl 0 (by decide) tb_1_85 rfl rfl d_Tag_bring_40 ?_
        refine lv_aload_n hx hb d_Tag_bring_43 rfl (lv_at hl 2 rfl) ?_
        refine q_get S hw ly_Tag 2 rfl rfl 1 (by decide) tb_1_86 rfl rfl d_Tag_bring_44 ?_
        refine lv_iload_n hx hb d_Tag_bring_47 rfl (lv_at hl 0 rfl) ?_
        refine q_ialdN (k := (n / 8) % 8) S hw 8 0 rfl rfl (by omega) (by decide) d_Tag_bring_48 ?_
        refine lv_aload_n hx hb d_Tag_bring_49 rfl (lv_at hl 2 rfl) ?_
        refine q_get S hw ly_Tag 2 rfl rfl 2 (by decide) tb_1_87 rfl rfl d_Tag_bring_50 ?_
        refine lv_iload_n hx hb d_Tag_bring_53 rfl (lv_at hl 0 rfl) ?_
        refine q_ialdN (k := (n / 8) % 8) S hw 9 0 rfl rfl (by omega) (by decide) d_Tag_bring_54 ?_
        refine q_iast S hw 7 0 rfl rfl (by obtain ⟨r, hr1, -, hr3, -⟩ := hT.row (j := n / 8 % 8) (by omega) h27; rw [hr3]; exact vp_in_nI hr1 (by decide)) d_Tag_bring_55 (fun H locs hw => ?_)
        have hw : Lv _ _ _ _ _ (MW ad ti words mc mt mw (upd rows (held ((n / 8) % 8)).toNatClampNeg (tc ((n / 8) % 8))) held tc tw lines nx) _ _ _ := hw
        refine lv_aload_n hx hb d_Tag_bring_56 rfl (lv_at hl 2 rfl) ?_
        refine q_get S hw ly_Tag 2 rfl rfl 2 (by decide) tb_1_87 rfl rfl d_Tag_bring_57 ?_
        refine lv_iload_n hx hb d_Tag_bring_60 rfl (lv_at hl 0 rfl) ?_
        refine lv_aload_n hx hb d_Tag_bring_61 rfl (lv_at hl 2 rfl) ?_
        refine q_get S hw ly_Tag 2 rfl rfl 0 (by decide) tb_1_85 rfl rfl d_Tag_bring_62 ?_
        refine lv_iload_n hx hb d_Tag_bring_65 rfl (lv_at hl 1 rfl) ?_
        refine q_ialdN (k := n / 8) S hw 7 0 rfl rfl (by omega) (by decide) d_Tag_bring_66 ?_
        refine q_iastN (k := (n / 8) % 8) S hw 9 0 rfl rfl (by omega) (by decide) d_Tag_bring_67 (fun H locs hw => ?_)
        have hw : Lv _ _ _ _ _ (MW ad ti words mc mt mw (upd rows (held ((n / 8) % 8)).toNatClampNeg (tc ((n / 8) % 8))) held (upd tc ((n / 8) % 8) ((upd rows (held ((n / 8) % 8)).toNatClampNeg (tc ((n / 8) % 8))) (n / 8))) tw lines nx) _ _ _ := hw
        refine lv_aload_n hx hb d_Tag_bring_68 rfl (lv_at hl 2 rfl) ?_
        refine q_get S hw ly_Tag 2 rfl rfl 3 (by decide) tb_1_88 rfl rfl d_Tag_bring_69 ?_
        refine lv_iload_n hx hb d_Tag_bring_72 rfl (lv_at hl 0 rfl) ?_
        refine lv_iconst (v := 0) hx hb d_Tag_bring_73 (by decide) ?_
        refine q_zastN (k := (n / 8) % 8) S hw 10 1 rfl rfl false (by omega) (by decide) d_Tag_bring_74 (fun H locs hw => ?_)
        have hw : Lv _ _ _ _ _ (MW ad ti words mc mt mw (upd rows (held ((n / 8) % 8)).toNatClampNeg (tc ((n / 8) % 8))) held (upd tc ((n / 8) % 8) ((upd rows (held ((n / 8) % 8)).toNatClampNeg (tc ((n / 8) % 8))) (n / 8))) (va_up tw ((n / 8) % 8) false) lines nx) _ _ _ := hw
        refine lv_aload_n hx hb d_Tag_bring_75 rfl (lv_at hl 2 rfl) ?_
        refine q_get S hw ly_Tag 2 rfl rfl 1 (by decide) tb_1_86 rfl rfl d_Tag_bring_76 ?_
        refine lv_iload_n hx hb d_Tag_bring_79 rfl (lv_at hl 0 rfl) ?_
        refine lv_iload_n hx hb d_Tag_bring_80 rfl (lv_at hl 1 rfl) ?_
        refine q_iastN (k := (n / 8) % 8) S hw 8 0 rfl rfl (by omega) (by decide) d_Tag_bring_81 (fun H locs hw => ?_)
        have hw : Lv _ _ _ _ _ (MW ad ti words mc mt mw (upd rows (held ((n / 8) % 8)).toNatClampNeg (tc ((n / 8) % 8))) (upd held ((n / 8) % 8) (nI (n / 8))) (upd tc ((n / 8) % 8) ((upd rows (held ((n / 8) % 8)).toNatClampNeg (tc ((n / 8) % 8))) (n / 8))) (va_up tw ((n / 8) % 8) false) lines nx) _ _ _ := hw
        exact hw.rv S hr hlk d_Tag_bring_82 () (rfl) (trivial) (by simp [brRows, brHeld, brTc, brTw, h17, h27, h36])
set_option maxHeartbeats 4000000 in
set_option maxRecDepth 100000 in
theorem c_Tag_wrongs (l : Launch) (D : va_G) (ti : Nat → ClassId) (ad : Nat → Nat) (words mc mt : Nat → Int32) (mw : Nat → Bool) (rows held tc : Nat → Int32) (tw : Nat → Bool) (lines nx : Nat → Int32) (hT : TI rows held tc tw) : Cr l y_Tag_wrongs (wl y_Tag_wrongs b_Tag_wrongs 3 (some .int)) (rmL 1) D clz (ty4 ti) [.ref (ad 2)] (MW ad ti words mc mt mw rows held tc tw lines nx) (some (.int 0)) := by
  refine Cr.ofF (plainFor_of_name (by decide)) (Nat.le_of_ble_eq_true rfl) ?_
  intro p9 e9 s9 m9 b9 me9 c9 ls S hr hlk hl hw
  obtain ⟨hx, hb, hml, hown, hts⟩ := id S
  have hl : lv_has ls 3 [(0, .ref (ad 2))] := hl
  refine lv_iconst (v := 0) hx hb d_Tag_wrongs_0 (by decide) ?_
  refine lv_istore_n (lv' := [(1, .int (0 : Int32)), (0, .ref (ad 2))]) hx hb d_Tag_wrongs_1 rfl hl (by decide) rfl (fun ls hl => ?_)
  refine lv_iconst (v := 0) hx hb d_Tag_wrongs_2 (by decide) ?_
  refine lv_istore_n (lv' := [(2, .int (0 : Int32)), (1, .int (0 : Int32)), (0, .ref (ad 2))]) hx hb d_Tag_wrongs_3 rfl hl (by decide) rfl (fun ls hl => ?_)
  refine q_loop (Z := Nat) (pcL := 4) (st := []) (nL := 3) (fun z => [(2, .int (nI z)), (1, .int (0 : Int32)), (0, .ref (ad 2))]) (fun z => z ≤ 8) (fun z => 8 - z) (fun z ls hI4 hl IH4 => ?_) 0 (by omega) (q_loc (l' := [(2, .int (nI 0)), (1, .int (0 : Int32)), (0, .ref (ad 2))]) (lv_sub (l' := [(2, .int (0 : Int32)), (1, .int (0 : Int32)), (0, .ref (ad 2))]) hl [0, 1, 2] rfl) (rfl))
  have hl : lv_has ls 3 [(2, .int (nI z)), (1, .int (0 : Int32)), (0, .ref (ad 2))] := hl
  refine lv_iload_n hx hb d_Tag_wrongs_4 rfl (lv_at hl 0 rfl) ?_
  refine lv_bipush (v := 8) hx hb d_Tag_wrongs_5 (by decide) ?_
  refine lv_icmp_ge hx hb d_Tag_wrongs_7 rfl (fun h7 => ?_) (fun h7 => ?_)
  · refine lv_iload_n hx hb d_Tag_wrongs_74 rfl (lv_at hl 1 rfl) ?_
    exact rd_i S hr hlk rfl d_Tag_wrongs_75 (rfl)
  · have hz := lt_nge (c := 8) (by decide) hI4 h7
    refine lv_aload_n hx hb d_Tag_wrongs_10 rfl (lv_at hl 2 rfl) ?_
    refine q_get S hw ly_Tag 2 rfl rfl 1 (by decide) tb_1_86 rfl rfl d_Tag_wrongs_11 ?_
    refine lv_iload_n hx hb d_Tag_wrongs_14 rfl (lv_at hl 0 rfl) ?_
    refine q_ialdN (k := z) S hw 8 0 rfl rfl (by omega) (by decide) d_Tag_wrongs_15 ?_
    refine lv_iconst (v := -1) hx hb d_Tag_wrongs_16 (by decide) ?_
    refine lv_icmp_ne hx hb d_Tag_wrongs_17 rfl (fun h17 => ?_) (fun h17 => ?_)
    · refine lv_aload_n hx hb d_Tag_wrongs_35 rfl (lv_at hl 2 rfl) ?_
      refine q_get S hw ly_Tag 2 rfl rfl 3 (by decide) tb_1_88 rfl rfl d_Tag_wrongs_36 ?_
      refine lv_iload_n hx hb d_Tag_wrongs_39 rfl (lv_at hl 0 rfl) ?_
      refine q_zaldN (k := z) S hw 10 1 rfl rfl (by omega) (by decide) d_Tag_wrongs_40 ?_
      refine q_ifz_ne S d_Tag_wrongs_41 rfl (fun h41 => ?_) (fun h41 => ?_)
      · refine lv_iinc (k := 0) (v := (nI (z + 1))) (lv' := [(2, .int (nI (z + 1))), (1, .int (0 : Int32)), (0, .ref (ad 2))]) hx hb d_Tag_wrongs_68 hl rfl (iinc1 z) (by decide) rfl (fun ls hl => ?_)
        refine lv_goto hx hb d_Tag_wrongs_71 rfl ?_
        exact IH4 (z + 1) _ (by omega) (by omega) (lv_sub (l' := [(2, .int (nI (z + 1))), (1, .int (0 : Int32)), (0, .ref (ad 2))]) hl [0, 1, 2] rfl)
      · obtain ⟨r, hr1, hr2, hr3, hr4⟩ := hT.row hz h17
        refine lv_iload_n hx hb d_Tag_wrongs_44 rfl (lv_at hl 1 rfl) ?_
        refine lv_aload_n hx hb d_Tag_wrongs_45 rfl (lv_at hl 2 rfl) ?_
        refine q_get S hw ly_Tag 2 rfl rfl 2 (by decide) tb_1_87 rfl rfl d_Tag_wrongs_46 ?_
        refine lv_iload_n hx hb d_Tag_wrongs_49 rfl (lv_at hl 0 rfl) ?_
        refine q_ialdN (k := z) S hw 9 0 rfl rfl (by omega) (by decide) d_Tag_wrongs_50 ?_
        refine lv_aload_n hx hb d_Tag_wrongs_51 rfl (lv_at hl 2 rfl) ?_
        refine q_get S hw ly_Tag 2 rfl rfl 0 (by decide) tb_1_85 rfl rfl d_Tag_wrongs_52 ?_
        refine lv_aload_n hx hb d_Tag_wrongs_55 rfl (lv_at hl 2 rfl) ?_
        refine q_get S hw ly_Tag 2 rfl rfl 1 (by decide) tb_1_86 rfl rfl d_Tag_wrongs_56 ?_
        refine lv_iload_n hx hb d_Tag_wrongs_59 rfl (lv_at hl 0 rfl) ?_
        refine q_ialdN (k := z) S hw 8 0 rfl rfl (by omega) (by decide) d_Tag_wrongs_60 ?_
        refine q_topi (z := (nI r)) (hr3) ?_
        refine q_ialdN (k := r) S hw 7 0 rfl rfl (by omega) (by decide) d_Tag_wrongs_61 ?_
        refine lv_ixor hx hb d_Tag_wrongs_62 ?_
        refine q_cr (q_runS (As := [.int ((tc z) ^^^ (rows r))]) (rest := [.int (0 : Int32)]) S ((c_Int_bitCount l D (ty4 ti) ((tc z) ^^^ (rows r))).nil _) (cw_s hts tb_2_175 k_Int_bitCount rfl rfl ⟨by decide, by decide⟩) hw rfl hl.1 rfl (Nat.le_of_ble_eq_true rfl) d_Tag_wrongs_63 ⟨Nat.zero_le _, Nat.zero_le _⟩) ?_
        refine W.eq (g2 := F0 m9 66 ls [.int (jpop ((tc z) ^^^ (rows r))), .int (0 : Int32)]) rfl ?_
        refine lv_iadd hx hb d_Tag_wrongs_66 ?_
        refine lv_istore_n (lv' := [(1, .int ((0 : Int32) + (jpop ((tc z) ^^^ (rows r))))), (2, .int (nI z)), (0, .ref (ad 2))]) hx hb d_Tag_wrongs_67 rfl hl (by decide) rfl (fun ls hl => ?_)
        have hl : lv_has ls 3 [(1, .int (0 : Int32)), (2, .int (nI z)), (0, .ref (ad 2))] := q_loc hl (by rw [hr4 h41, Int32.xor_self, jpop_0]; rfl)
        refine lv_iinc (k := 1) (v := (nI (z + 1))) (lv' := [(2, .int (nI (z + 1))), (1, .int (0 : Int32)), (0, .ref (ad 2))]) hx hb d_Tag_wrongs_68 hl rfl (iinc1 z) (by decide) rfl (fun ls hl => ?_)
        refine lv_goto hx hb d_Tag_wrongs_71 rfl ?_
        exact IH4 (z + 1) _ (by omega) (by omega) (lv_sub (l' := [(2, .int (nI (z + 1))), (1, .int (0 : Int32)), (0, .ref (ad 2))]) hl [0, 1, 2] rfl)
    · refine lv_iload_n hx hb d_Tag_wrongs_20 rfl (lv_at hl 1 rfl) ?_
      refine lv_aload_n hx hb d_Tag_wrongs_21 rfl (lv_at hl 2 rfl) ?_
      refine q_get S hw ly_Tag 2 rfl rfl 2 (by decide) tb_1_87 rfl rfl d_Tag_wrongs_22 ?_
      refine lv_iload_n hx hb d_Tag_wrongs_25 rfl (lv_at hl 0 rfl) ?_
      refine q_ialdN (k := z) S hw 9 0 rfl rfl (by omega) (by decide) d_Tag_wrongs_26 ?_
      refine q_cr (q_runS (As := [.int (tc z)]) (rest := [.int (0 : Int32)]) S ((c_Int_bitCount l D (ty4 ti) (tc z)).nil _) (cw_s hts tb_2_175 k_Int_bitCount rfl rfl ⟨by decide, by decide⟩) hw rfl hl.1 rfl (Nat.le_of_ble_eq_true rfl) d_Tag_wrongs_27 ⟨Nat.zero_le _, Nat.zero_le _⟩) ?_
      refine W.eq (g2 := F0 m9 30 ls [.int (jpop (tc z)), .int (0 : Int32)]) rfl ?_
      refine lv_iadd hx hb d_Tag_wrongs_30 ?_
      refine lv_istore_n (lv' := [(1, .int ((0 : Int32) + (jpop (tc z)))), (2, .int (nI z)), (0, .ref (ad 2))]) hx hb d_Tag_wrongs_31 rfl hl (by decide) rfl (fun ls hl => ?_)
      have hl : lv_has ls 3 [(1, .int (0 : Int32)), (2, .int (nI z)), (0, .ref (ad 2))] := q_loc hl (by rw [hT.none hz h17, jpop_0]; rfl)
      refine lv_goto hx hb d_Tag_wrongs_32 rfl ?_
      refine lv_iinc (k := 1) (v := (nI (z + 1))) (lv' := [(2, .int (nI (z + 1))), (1, .int (0 : Int32)), (0, .ref (ad 2))]) hx hb d_Tag_wrongs_68 hl rfl (iinc1 z) (by decide) rfl (fun ls hl => ?_)
      refine lv_goto hx hb d_Tag_wrongs_71 rfl ?_
      exact IH4 (z + 1) _ (by omega) (by omega) (lv_sub (l' := [(2, .int (nI (z + 1))), (1, .int (0 : Int32)), (0, .ref (ad 2))]) hl [0, 1, 2] rfl)
