/-! The reference's object. Its tags are the class's, by eight bytes. -/
def RMW (mo : Nat) (am : Nat → Nat) (ti : Nat → ClassId) (Q : Nat → Cap) (w g : Nat → Int32) (rb rt : Nat → Int64) (rp : Nat → Int32) (ro ca va st tr th : Int32) (ha : Bool) (pk : Int32) (xx : Bool) (rd : Int64) (to : Int32) : va_W :=
  [(mo, .inr (11, [.ref (am 0), .ref (am 1), .ref (am 2), .ref (am 3), .ref (am 4), .ref (am 5), .ref (am 6), .ref (am 7), .int ro, .int ca, .int va, .int st, .int tr, .int th, .int (jb ha), .int pk, .int (jb xx), .long rd, .int to])),
   (am 0, .inl (ti 1, 40, .inl (fun j => jb (Q j).1))), (am 1, .inl (ti 0, 40, .inl (fun j => (Q j).2.1))), (am 2, .inl (ti 0, 40, .inl (fun j => (Q j).2.2))), (am 3, .inl (ti 0, 4096, .inl w)), (am 4, .inl (ti 1, 2048, .inl (fun j => jb (gTag g (2 * j))))),
   (am 5, .inl (ti 2, 8, .inr (.inl rb))), (am 6, .inl (ti 2, 8, .inr (.inl rt))), (am 7, .inl (ti 0, 8, .inl rp))]
theorem q_t (Q : Nat → Cap) (r : Nat) (t : Bool) : (fun j => jb (va_up (fun j => (Q j).1) r t j)) = (fun j => jb (va_up Q r (t, (Q r).2.1, (Q r).2.2) j).1) ∧ (fun j => (va_up Q r (t, (Q r).2.1, (Q r).2.2) j).2.1) = (fun j => (Q j).2.1) ∧ (fun j => (va_up Q r (t, (Q r).2.1, (Q r).2.2) j).2.2) = (fun j => (Q j).2.2) := by
  refine ⟨?_, ?_, ?_⟩ <;> funext j <;> by_cases h : j = r
  all_goals first | (subst h; simp only [va_up_self]) | simp only [va_up_ne _ _ h]
theorem q_a (Q : Nat → Cap) (r : Nat) (a : Int32) : upd (fun j => (Q j).2.1) r a = (fun j => (va_up Q r ((Q r).1, a, (Q r).2.2) j).2.1) ∧ (fun j => jb (va_up Q r ((Q r).1, a, (Q r).2.2) j).1) = (fun j => jb (Q j).1) ∧ (fun j => (va_up Q r ((Q r).1, a, (Q r).2.2) j).2.2) = (fun j => (Q j).2.2) := by
  refine ⟨?_, ?_, ?_⟩ <;> funext j <;> by_cases h : j = r
  all_goals first | (subst h; simp only [va_up_self, upd, ↓reduceIte]) | simp only [va_up_ne _ _ h, upd, h, ↓reduceIte]
theorem q_m (Q : Nat → Cap) (r : Nat) (a : Int32) : upd (fun j => (Q j).2.2) r a = (fun j => (va_up Q r ((Q r).1, (Q r).2.1, a) j).2.2) ∧ (fun j => jb (va_up Q r ((Q r).1, (Q r).2.1, a) j).1) = (fun j => jb (Q j).1) ∧ (fun j => (va_up Q r ((Q r).1, (Q r).2.1, a) j).2.1) = (fun j => (Q j).2.1) := by
  refine ⟨?_, ?_, ?_⟩ <;> funext j <;> by_cases h : j = r
  all_goals first | (subst h; simp only [va_up_self, upd, ↓reduceIte]) | simp only [va_up_ne _ _ h, upd, h, ↓reduceIte]
theorem RMW_t {ti : Nat → ClassId} {mo : Nat} {am : Nat → Nat} {Q : Nat → Cap} {w g : Nat → Int32} {rb rt : Nat → Int64} {rp : Nat → Int32} {ro ca va st tr th : Int32} {ha : Bool} {pk : Int32} {xx : Bool} {rd : Int64} {to : Int32} {r : Nat} {t : Bool} : (RMW mo am ti Q w g rb rt rp ro ca va st tr th ha pk xx rd to).set 1 (am 0, .inl (ti 1, 40, .inl (fun j => jb (va_up (fun j => (Q j).1) r t j)))) = RMW mo am ti (va_up Q r (t, (Q r).2.1, (Q r).2.2)) w g rb rt rp ro ca va st tr th ha pk xx rd to := by
  unfold RMW
  obtain ⟨e1, e2, e3⟩ := q_t Q r t
  rw [e1, e2, e3]
  rfl
theorem RMW_a {ti : Nat → ClassId} {mo : Nat} {am : Nat → Nat} {Q : Nat → Cap} {w g : Nat → Int32} {rb rt : Nat → Int64} {rp : Nat → Int32} {ro ca va st tr th : Int32} {ha : Bool} {pk : Int32} {xx : Bool} {rd : Int64} {to : Int32} {r : Nat} {a : Int32} : (RMW mo am ti Q w g rb rt rp ro ca va st tr th ha pk xx rd to).set 2 (am 1, .inl (ti 0, 40, .inl (upd (fun j => (Q j).2.1) r a))) = RMW mo am ti (va_up Q r ((Q r).1, a, (Q r).2.2)) w g rb rt rp ro ca va st tr th ha pk xx rd to := by
  unfold RMW
  obtain ⟨e1, e2, e3⟩ := q_a Q r a
  rw [e1, e2, e3]
  rfl
theorem RMW_m {ti : Nat → ClassId} {mo : Nat} {am : Nat → Nat} {Q : Nat → Cap} {w g : Nat → Int32} {rb rt : Nat → Int64} {rp : Nat → Int32} {ro ca va st tr th : Int32} {ha : Bool} {pk : Int32} {xx : Bool} {rd : Int64} {to : Int32} {r : Nat} {a : Int32} : (RMW mo am ti Q w g rb rt rp ro ca va st tr th ha pk xx rd to).set 3 (am 2, .inl (ti 0, 40, .inl (upd (fun j => (Q j).2.2) r a))) = RMW mo am ti (va_up Q r ((Q r).1, (Q r).2.1, a)) w g rb rt rp ro ca va st tr th ha pk xx rd to := by
  unfold RMW
  obtain ⟨e1, e2, e3⟩ := q_m Q r a
  rw [e1, e2, e3]
  rfl
def rSet (Q : Nat → Cap) (r : Nat) (c : Cap) : Nat → Cap := if nI r = 0 then Q else va_up Q r c
theorem lN_lt2 {a b : Nat} (ha : a < 2 ^ 62) (hb : b < 2 ^ 62) : lN a < lN b ↔ a < b := by
  rw [Int64.lt_iff_toInt_lt, pf_lI (by omega), pf_lI (by omega)]
  omega
theorem lN_le2 {a b : Nat} (ha : a < 2 ^ 62) (hb : b < 2 ^ 62) : lN a ≤ lN b ↔ a ≤ b := by
  rw [Int64.le_iff_toInt_le, pf_lI (by omega), pf_lI (by omega)]
  omega
theorem r_may (m : Int32) (p : Nat) (hp : p < 32) : (cPerms m >>> (nI p &&& 31)) &&& 1 = jus (cPerms m) (nI p) &&& 1 := by
  rw [iN_sra (cPerms m) _ 1 p 1 (s_l p hp) rfl (by omega), pk_and _ 1 rfl, iN_us _ (nI p) p (s_u p hp), iN_tn (Nat.lt_of_le_of_lt (Nat.div_le_self _ _) (iN_lt _))]
theorem r_may1 (m : Int32) (p : Nat) (hp : p < 32) : (((cPerms m >>> (nI p &&& 31)) &&& 1) = 1) ↔ cMay m (nI p) = true := by
  rw [r_may m p hp]
  unfold cMay
  rw [pk_and _ 1 rfl]
  have : (jus (cPerms m) (nI p)).toBitVec.toNat % 2 ^ 1 = 0 ∨ (jus (cPerms m) (nI p)).toBitVec.toNat % 2 ^ 1 = 1 := by omega
  rcases this with h | h <;> rw [h] <;> decide
def rSame (m a x : Int32) : Bool := if cbase m a = cbase m x then (if ctop m a = ctop m x then true else false) else false
theorem rMv (c : Cap) (x : Int32) : (if c.1 = false then false else if cType c.2.2 = 15 then rSame c.2.2 c.2.1 x else false) = (cMvC c x).1 := by
  unfold cMvC cMv rSame cOpen
  by_cases h1 : c.1 = false
  · simp [h1]
  · by_cases h2 : cType c.2.2 = 15
    · simp only [h1, h2, if_false, if_true, eq_comm (a := cbase c.2.2 c.2.1), eq_comm (a := ctop c.2.2 c.2.1)]
      simp
    · simp [h1, h2]
def rHo (c : Cap) (y n : Int32) : Bool := cCov (cbase c.2.2 c.2.1) (ctop c.2.2 c.2.1) y n.toInt64
def rWi (d c : Cap) : Bool := if cbase d.2.2 d.2.1 < cbase c.2.2 c.2.1 then false else if ctop c.2.2 c.2.1 < ctop d.2.2 d.2.1 then false else true
def rAm (d c : Cap) : Bool := if (cPerms d.2.2 &&& (cPerms c.2.2 ^^^ (-1))) = 0 then true else false
theorem r_cWC (d c : Cap) : cWC d c = (if rWi d c = false then false else rAm d c) := by
  unfold cWC cWith rWi rAm
  split
  · rfl
  · split <;> rfl
theorem nz3 (z : Nat) (hz : z ≤ 40) : ¬ lN (2 ^ (z + 3)) = 0 := fun q => by
  have hp := p43 hz
  have := (lN_inj (a := 2 ^ (z + 3)) (b := 0) (by omega) (by decide)).mp q
  omega
theorem pk_c {B T z : Nat} (hB : B ≤ T) (hT : T ≤ 4294967296) (hz : z ≤ 27) : jul (lN (nUp T z) - lN (nDn B z)) (nI z + 3) = lN ((nUp T z - nDn B z) / 2 ^ (z + 3)) := by
  have hp := p43 (e := z) (by omega)
  have l1 := nUp_le (x := T) (e := z)
  have l2 := nDn_le (x := B) (e := z)
  have l3 := nUp_ge (x := T) (e := z)
  rw [lN_sub (by omega), show nI z + 3 = nI (z + 3) from nI_add z 3, wb_shr (by omega) (by omega)]
theorem sm63 {B T : Nat} (hB : B ≤ T) (hT : T ≤ 4294967296) (h : lN (T - B) ≤ 63) : T - B ≤ 63 := (lN_le2 (a := T - B) (b := 63) (by omega) (by decide)).mp h
set_option maxHeartbeats 4000000 in
set_option maxRecDepth 100000 in
theorem c_Mod_set (l : Launch) (D : va_G) (ti : Nat → ClassId) (mo : Nat) (am : Nat → Nat) (Q : Nat → Cap) (w g : Nat → Int32) (rb rt : Nat → Int64) (rp : Nat → Int32) (ro ca va st tr th : Int32) (ha : Bool) (pk : Int32) (xx : Bool) (rd : Int64) (to : Int32) (r : Nat) (hr : r < 40) (t : Bool) (a m : Int32) : Cg l y_Mod_set (wl y_Mod_set b_Mod_set 5 none) (rmL 0) D clz (ty4 ti) [.ref mo, .int (nI r), .int (jb t), .int a, .int m] (RMW mo am ti Q w g rb rt rp ro ca va st tr th ha pk xx rd to) (fun _ : Unit => none) (fun _ => (RMW mo am ti (rSet Q r (t, a, m)) w g rb rt rp ro ca va st tr th ha pk xx rd to)) (fun _ => True) := by
  refine Cg.ofF (plainFor_of_name (by decide)) (Nat.le_of_ble_eq_true rfl) ?_
  intro p9 e9 s9 m9 b9 me9 c9 ls S hr hlk hl hw
  obtain ⟨hx, hb, hml, hown, hts⟩ := id S
  have hl : lv_has ls 5 [(0, .ref mo), (1, .int (nI r)), (2, .int (jb t)), (3, .int a), (4, .int m)] := hl
  refine lv_iload_n hx hb d_Mod_set_0 rfl (lv_at hl 1 rfl) ?_
  refine lv_if_ne hx hb d_Mod_set_1 rfl (fun h1 => ?_) (fun h1 => ?_)
  · refine lv_aload_n hx hb d_Mod_set_5 rfl (lv_at hl 0 rfl) ?_
    refine q_get S hw ly_Mod 0 rfl rfl 0 (by decide) tb_5_43 rfl rfl d_Mod_set_6 ?_
    refine lv_iload_n hx hb d_Mod_set_9 rfl (lv_at hl 1 rfl) ?_
    refine lv_iload_n hx hb d_Mod_set_10 rfl (lv_at hl 2 rfl) ?_
    refine q_zastN (k := r) S hw 1 1 rfl rfl t (by first | assumption | omega) (by decide) d_Mod_set_11 (fun H locs hw => ?_)
    have hw : Lv _ _ _ _ _ (RMW mo am ti (va_up Q r (t, (Q r).2.1, (Q r).2.2)) w g rb rt rp ro ca va st tr th ha pk xx rd to) _ _ _ := hw.same (RMW_t)
    refine lv_aload_n hx hb d_Mod_set_12 rfl (lv_at hl 0 rfl) ?_
    refine q_get S hw ly_Mod 0 rfl rfl 1 (by decide) tb_5_44 rfl rfl d_Mod_set_13 ?_
    refine lv_iload_n hx hb d_Mod_set_16 rfl (lv_at hl 1 rfl) ?_
    refine lv_iload_n hx hb d_Mod_set_17 rfl (lv_at hl 3 rfl) ?_
    refine q_iastN (k := r) S hw 2 0 rfl rfl (by first | assumption | omega) (by decide) d_Mod_set_18 (fun H locs hw => ?_)
    have hw : Lv _ _ _ _ _ (RMW mo am ti (va_up (va_up Q r (t, (Q r).2.1, (Q r).2.2)) r (((va_up Q r (t, (Q r).2.1, (Q r).2.2)) r).1, a, ((va_up Q r (t, (Q r).2.1, (Q r).2.2)) r).2.2)) w g rb rt rp ro ca va st tr th ha pk xx rd to) _ _ _ := hw.same (RMW_a)
    refine lv_aload_n hx hb d_Mod_set_19 rfl (lv_at hl 0 rfl) ?_
    refine q_get S hw ly_Mod 0 rfl rfl 2 (by decide) tb_5_45 rfl rfl d_Mod_set_20 ?_
    refine lv_iload_n hx hb d_Mod_set_23 rfl (lv_at hl 1 rfl) ?_
    refine lv_iload hx hb d_Mod_set_24 (lv_at hl 4 rfl) ?_
    refine q_iastN (k := r) S hw 3 0 rfl rfl (by first | assumption | omega) (by decide) d_Mod_set_26 (fun H locs hw => ?_)
    have hw : Lv _ _ _ _ _ (RMW mo am ti (va_up (va_up (va_up Q r (t, (Q r).2.1, (Q r).2.2)) r (((va_up Q r (t, (Q r).2.1, (Q r).2.2)) r).1, a, ((va_up Q r (t, (Q r).2.1, (Q r).2.2)) r).2.2)) r (((va_up (va_up Q r (t, (Q r).2.1, (Q r).2.2)) r (((va_up Q r (t, (Q r).2.1, (Q r).2.2)) r).1, a, ((va_up Q r (t, (Q r).2.1, (Q r).2.2)) r).2.2)) r).1, ((va_up (va_up Q r (t, (Q r).2.1, (Q r).2.2)) r (((va_up Q r (t, (Q r).2.1, (Q r).2.2)) r).1, a, ((va_up Q r (t, (Q r).2.1, (Q r).2.2)) r).2.2)) r).2.1, m)) w g rb rt rp ro ca va st tr th ha pk xx rd to) _ _ _ := hw.same (RMW_m)
    exact hw.rv S hr hlk d_Mod_set_27 () (rfl) (trivial) (by simp only [rSet, if_neg h1, up_up, va_up_self])
  · exact hw.rv S hr hlk d_Mod_set_4 () (rfl) (trivial) (by simp only [rSet, if_pos h1])
set_option maxHeartbeats 4000000 in
set_option maxRecDepth 100000 in
theorem c_Mod_copy (l : Launch) (D : va_G) (ti : Nat → ClassId) (mo : Nat) (am : Nat → Nat) (Q : Nat → Cap) (w g : Nat → Int32) (rb rt : Nat → Int64) (rp : Nat → Int32) (ro ca va st tr th : Int32) (ha : Bool) (pk : Int32) (xx : Bool) (rd : Int64) (to : Int32) (f r : Nat) (hf : f < 40) (hr : r < 40) : Cg l y_Mod_copy (wl y_Mod_copy b_Mod_copy 3 none) (rmL 1) D clz (ty4 ti) [.ref mo, .int (nI f), .int (nI r)] (RMW mo am ti Q w g rb rt rp ro ca va st tr th ha pk xx rd to) (fun _ : Unit => none) (fun _ => (RMW mo am ti (rSet Q r (Q f)) w g rb rt rp ro ca va st tr th ha pk xx rd to)) (fun _ => True) := by
  refine Cg.ofF (plainFor_of_name (by decide)) (Nat.le_of_ble_eq_true rfl) ?_
  intro p9 e9 s9 m9 b9 me9 c9 ls S hr hlk hl hw
  obtain ⟨hx, hb, hml, hown, hts⟩ := id S
  have hl : lv_has ls 3 [(0, .ref mo), (1, .int (nI f)), (2, .int (nI r))] := hl
  refine lv_aload_n hx hb d_Mod_copy_0 rfl (lv_at hl 0 rfl) ?_
  refine lv_iload_n hx hb d_Mod_copy_1 rfl (lv_at hl 2 rfl) ?_
  refine lv_aload_n hx hb d_Mod_copy_2 rfl (lv_at hl 0 rfl) ?_
  refine q_get S hw ly_Mod 0 rfl rfl 0 (by decide) tb_5_43 rfl rfl d_Mod_copy_3 ?_
  refine lv_iload_n hx hb d_Mod_copy_6 rfl (lv_at hl 1 rfl) ?_
  refine q_zaldN (k := f) S hw 1 1 rfl rfl (by first | assumption | omega) (by decide) d_Mod_copy_7 ?_
  refine lv_aload_n hx hb d_Mod_copy_8 rfl (lv_at hl 0 rfl) ?_
  refine q_get S hw ly_Mod 0 rfl rfl 1 (by decide) tb_5_44 rfl rfl d_Mod_copy_9 ?_
  refine lv_iload_n hx hb d_Mod_copy_12 rfl (lv_at hl 1 rfl) ?_
  refine q_ialdN (k := f) S hw 2 0 rfl rfl (by first | assumption | omega) (by decide) d_Mod_copy_13 ?_
  refine lv_aload_n hx hb d_Mod_copy_14 rfl (lv_at hl 0 rfl) ?_
  refine q_get S hw ly_Mod 0 rfl rfl 2 (by decide) tb_5_45 rfl rfl d_Mod_copy_15 ?_
  refine lv_iload_n hx hb d_Mod_copy_18 rfl (lv_at hl 1 rfl) ?_
  refine q_ialdN (k := f) S hw 3 0 rfl rfl (by first | assumption | omega) (by decide) d_Mod_copy_19 ?_
  refine q_cg (q_runV (As := [.int (nI r), .int (jb ((Q f).1)), .int ((Q f).2.1), .int ((Q f).2.2)]) (rest := []) S (c_Mod_set l D ti mo am Q w g rb rt rp ro ca va st tr th ha pk xx rd to r (by first | decide | omega) ((Q f).1) ((Q f).2.1) ((Q f).2.2)) (cw_v hts tb_5_131 k_Mod_set rfl rfl ⟨by decide, by decide⟩) hw 0 rfl rfl rfl hl.1 rfl (Nat.le_of_ble_eq_true rfl) d_Mod_copy_20 ⟨Nat.zero_le _, Nat.zero_le _⟩) hw (fun z hD => qD_same hD rfl) (fun z9 H locs hp9 hw => ?_)
  refine W.eq (g2 := F0 m9 23 ls []) rfl ?_
  have hw : Lv _ _ _ _ _ (RMW mo am ti (rSet Q r ((Q f).1, ((Q f).2.1), ((Q f).2.2))) w g rb rt rp ro ca va st tr th ha pk xx rd to) _ _ _ := hw
  exact hw.rv S hr hlk d_Mod_copy_23 () (rfl) (trivial) (rfl)
set_option maxHeartbeats 4000000 in
set_option maxRecDepth 100000 in
theorem c_Mod_number (l : Launch) (D : va_G) (ti : Nat → ClassId) (mo : Nat) (am : Nat → Nat) (Q : Nat → Cap) (w g : Nat → Int32) (rb rt : Nat → Int64) (rp : Nat → Int32) (ro ca va st tr th : Int32) (ha : Bool) (pk : Int32) (xx : Bool) (rd : Int64) (to : Int32) (r : Nat) (hr : r < 40) (v : Int32) : Cg l y_Mod_number (wl y_Mod_number b_Mod_number 3 none) (rmL 1) D clz (ty4 ti) [.ref mo, .int (nI r), .int v] (RMW mo am ti Q w g rb rt rp ro ca va st tr th ha pk xx rd to) (fun _ : Unit => none) (fun _ => (RMW mo am ti (rSet Q r (false, v, 1000194)) w g rb rt rp ro ca va st tr th ha pk xx rd to)) (fun _ => True) := by
  refine Cg.ofF (plainFor_of_name (by decide)) (Nat.le_of_ble_eq_true rfl) ?_
  intro p9 e9 s9 m9 b9 me9 c9 ls S hr hlk hl hw
  obtain ⟨hx, hb, hml, hown, hts⟩ := id S
  have hl : lv_has ls 3 [(0, .ref mo), (1, .int (nI r)), (2, .int v)] := hl
  refine lv_aload_n hx hb d_Mod_number_0 rfl (lv_at hl 0 rfl) ?_
  refine lv_iload_n hx hb d_Mod_number_1 rfl (lv_at hl 1 rfl) ?_
  refine lv_iconst (v := 0) hx hb d_Mod_number_2 (by decide) ?_
  refine lv_iload_n hx hb d_Mod_number_3 rfl (lv_at hl 2 rfl) ?_
  refine lv_ldc (v := 1000194) hx hb hown (hts _ tb_5_42) d_Mod_number_4 ?_
  refine q_cg (q_runV (As := [.int (nI r), .int (jb false), .int v, .int (1000194 : Int32)]) (rest := []) S (c_Mod_set l D ti mo am Q w g rb rt rp ro ca va st tr th ha pk xx rd to r (by first | decide | omega) false v (1000194 : Int32)) (cw_v hts tb_5_131 k_Mod_set rfl rfl ⟨by decide, by decide⟩) hw 0 rfl rfl rfl hl.1 rfl (Nat.le_of_ble_eq_true rfl) d_Mod_number_6 ⟨Nat.zero_le _, Nat.zero_le _⟩) hw (fun z hD => qD_same hD rfl) (fun z9 H locs hp9 hw => ?_)
  refine W.eq (g2 := F0 m9 9 ls []) rfl ?_
  have hw : Lv _ _ _ _ _ (RMW mo am ti (rSet Q r (false, v, (1000194 : Int32))) w g rb rt rp ro ca va st tr th ha pk xx rd to) _ _ _ := hw
  exact hw.rv S hr hlk d_Mod_number_9 () (rfl) (trivial) (rfl)
set_option maxHeartbeats 4000000 in
set_option maxRecDepth 100000 in
theorem c_Mod_same (l : Launch) (D : va_G) (ti : Nat → ClassId) (mo : Nat) (am : Nat → Nat) (Q : Nat → Cap) (w g : Nat → Int32) (rb rt : Nat → Int64) (rp : Nat → Int32) (ro ca va st tr th : Int32) (ha : Bool) (pk : Int32) (xx : Bool) (rd : Int64) (to : Int32) (m a x : Int32) : Cr l y_Mod_same (wl y_Mod_same b_Mod_same 4 (some .boolean)) (rmL 4) D clz (ty4 ti) [.ref mo, .int m, .int a, .int x] (RMW mo am ti Q w g rb rt rp ro ca va st tr th ha pk xx rd to) (some (.int (jb (rSame m a x)))) := by
  refine Cr.ofF (plainFor_of_name (by decide)) (Nat.le_of_ble_eq_true rfl) ?_
  intro p9 e9 s9 m9 b9 me9 c9 ls S hr hlk hl hw
  obtain ⟨hx, hb, hml, hown, hts⟩ := id S
  have hl : lv_has ls 4 [(0, .ref mo), (1, .int m), (2, .int a), (3, .int x)] := hl
  refine lv_iload_n hx hb d_Mod_same_0 rfl (lv_at hl 1 rfl) ?_
  refine lv_iload_n hx hb d_Mod_same_1 rfl (lv_at hl 2 rfl) ?_
  refine q_cr (q_runS (As := [.int m, .int a]) (rest := []) S ((c_Mod_base l D (ty4 ti) m a).nil _) (cw_s hts tb_5_135 k_Mod_base rfl rfl ⟨by decide, by decide⟩) hw rfl hl.1 rfl (Nat.le_of_ble_eq_true rfl) d_Mod_same_2 ⟨Nat.zero_le _, Nat.zero_le _⟩) ?_
  refine W.eq (g2 := F0 m9 5 ls [.long (cbase m a)]) rfl ?_
  refine lv_iload_n hx hb d_Mod_same_5 rfl (lv_at hl 1 rfl) ?_
  refine lv_iload_n hx hb d_Mod_same_6 rfl (lv_at hl 3 rfl) ?_
  refine q_cr (q_runS (As := [.int m, .int x]) (rest := [.long (cbase m a)]) S ((c_Mod_base l D (ty4 ti) m x).nil _) (cw_s hts tb_5_135 k_Mod_base rfl rfl ⟨by decide, by decide⟩) hw rfl hl.1 rfl (Nat.le_of_ble_eq_true rfl) d_Mod_same_7 ⟨Nat.zero_le _, Nat.zero_le _⟩) ?_
  refine W.eq (g2 := F0 m9 10 ls [.long (cbase m x), .long (cbase m a)]) rfl ?_
  refine q_lc_ne S d_Mod_same_10 d_Mod_same_11 rfl (fun h11 => ?_) (fun h11 => ?_)
  · refine lv_iconst (v := 0) hx hb d_Mod_same_32 (by decide) ?_
    exact rd_i S hr hlk rfl d_Mod_same_33 (by simp [rSame, jb, h11])
  · refine lv_iload_n hx hb d_Mod_same_14 rfl (lv_at hl 1 rfl) ?_
    refine lv_iload_n hx hb d_Mod_same_15 rfl (lv_at hl 2 rfl) ?_
    refine q_cr (q_runS (As := [.int m, .int a]) (rest := []) S ((c_Mod_top l D (ty4 ti) m a).nil _) (cw_s hts tb_5_153 k_Mod_top rfl rfl ⟨by decide, by decide⟩) hw rfl hl.1 rfl (Nat.le_of_ble_eq_true rfl) d_Mod_same_16 ⟨Nat.zero_le _, Nat.zero_le _⟩) ?_
    refine W.eq (g2 := F0 m9 19 ls [.long (ctop m a)]) rfl ?_
    refine lv_iload_n hx hb d_Mod_same_19 rfl (lv_at hl 1 rfl) ?_
    refine lv_iload_n hx hb d_Mod_same_20 rfl (lv_at hl 3 rfl) ?_
    refine q_cr (q_runS (As := [.int m, .int x]) (rest := [.long (ctop m a)]) S ((c_Mod_top l D (ty4 ti) m x).nil _) (cw_s hts tb_5_153 k_Mod_top rfl rfl ⟨by decide, by decide⟩) hw rfl hl.1 rfl (Nat.le_of_ble_eq_true rfl) d_Mod_same_21 ⟨Nat.zero_le _, Nat.zero_le _⟩) ?_
    refine W.eq (g2 := F0 m9 24 ls [.long (ctop m x), .long (ctop m a)]) rfl ?_
    refine q_lc_ne S d_Mod_same_24 d_Mod_same_25 rfl (fun h25 => ?_) (fun h25 => ?_)
    · refine lv_iconst (v := 0) hx hb d_Mod_same_32 (by decide) ?_
      exact rd_i S hr hlk rfl d_Mod_same_33 (by simp [rSame, jb, h11, h25])
    · refine lv_iconst (v := 1) hx hb d_Mod_same_28 (by decide) ?_
      refine lv_goto hx hb d_Mod_same_29 rfl ?_
      exact rd_i S hr hlk rfl d_Mod_same_33 (by simp [rSame, jb, h11, h25])
set_option maxHeartbeats 4000000 in
set_option maxRecDepth 100000 in
theorem c_Mod_moved (l : Launch) (D : va_G) (ti : Nat → ClassId) (mo : Nat) (am : Nat → Nat) (Q : Nat → Cap) (w g : Nat → Int32) (rb rt : Nat → Int64) (rp : Nat → Int32) (ro ca va st tr th : Int32) (ha : Bool) (pk : Int32) (xx : Bool) (rd : Int64) (to : Int32) (c : Nat) (hc : c < 40) (x : Int32) (r : Nat) (hr : r < 40) : Cg l y_Mod_moved (wl y_Mod_moved b_Mod_moved 4 none) (rmL 5) D clz (ty4 ti) [.ref mo, .int (nI c), .int x, .int (nI r)] (RMW mo am ti Q w g rb rt rp ro ca va st tr th ha pk xx rd to) (fun _ : Unit => none) (fun _ => (RMW mo am ti (rSet Q r (cMvC (Q c) x)) w g rb rt rp ro ca va st tr th ha pk xx rd to)) (fun _ => True) := by
  refine Cg.ofF (plainFor_of_name (by decide)) (Nat.le_of_ble_eq_true rfl) ?_
  intro p9 e9 s9 m9 b9 me9 c9 ls S hr hlk hl hw
  obtain ⟨hx, hb, hml, hown, hts⟩ := id S
  have hl : lv_has ls 4 [(0, .ref mo), (1, .int (nI c)), (2, .int x), (3, .int (nI r))] := hl
  refine lv_aload_n hx hb d_Mod_moved_0 rfl (lv_at hl 0 rfl) ?_
  refine lv_iload_n hx hb d_Mod_moved_1 rfl (lv_at hl 3 rfl) ?_
  refine q_join (pcJ := 50) (st := [.int (jb ((cMvC (Q c) x).1)), .int (nI r), .ref mo]) (lv' := [(0, .ref mo), (1, .int (nI c)), (2, .int x), (3, .int (nI r))]) (nL := 4) (fun ls hl => ?_) (fun J50 => ?_)
  · refine lv_iload_n hx hb d_Mod_moved_50 rfl (lv_at hl 2 rfl) ?_
    refine lv_aload_n hx hb d_Mod_moved_51 rfl (lv_at hl 0 rfl) ?_
    refine q_get S hw ly_Mod 0 rfl rfl 2 (by decide) tb_5_45 rfl rfl d_Mod_moved_52 ?_
    refine lv_iload_n hx hb d_Mod_moved_55 rfl (lv_at hl 1 rfl) ?_
    refine q_ialdN (k := c) S hw 3 0 rfl rfl (by first | assumption | omega) (by decide) d_Mod_moved_56 ?_
    refine q_cg (q_runV (As := [.int (nI r), .int (jb ((cMvC (Q c) x).1)), .int x, .int ((Q c).2.2)]) (rest := []) S (c_Mod_set l D ti mo am Q w g rb rt rp ro ca va st tr th ha pk xx rd to r (by first | decide | omega) ((cMvC (Q c) x).1) x ((Q c).2.2)) (cw_v hts tb_5_131 k_Mod_set rfl rfl ⟨by decide, by decide⟩) hw 0 rfl rfl rfl hl.1 rfl (Nat.le_of_ble_eq_true rfl) d_Mod_moved_57 ⟨Nat.zero_le _, Nat.zero_le _⟩) hw (fun z hD => qD_same hD rfl) (fun z9 H locs hp9 hw => ?_)
    refine W.eq (g2 := F0 m9 60 ls []) rfl ?_
    have hw : Lv _ _ _ _ _ (RMW mo am ti (rSet Q r ((cMvC (Q c) x).1, x, ((Q c).2.2))) w g rb rt rp ro ca va st tr th ha pk xx rd to) _ _ _ := hw
    exact hw.rv S hr hlk d_Mod_moved_60 () (rfl) (trivial) (rfl)
  · refine lv_aload_n hx hb d_Mod_moved_2 rfl (lv_at hl 0 rfl) ?_
    refine q_get S hw ly_Mod 0 rfl rfl 0 (by decide) tb_5_43 rfl rfl d_Mod_moved_3 ?_
    refine lv_iload_n hx hb d_Mod_moved_6 rfl (lv_at hl 1 rfl) ?_
    refine q_zaldN (k := c) S hw 1 1 rfl rfl (by first | assumption | omega) (by decide) d_Mod_moved_7 ?_
    refine q_ifz_eq S d_Mod_moved_8 rfl (fun h8 => ?_) (fun h8 => ?_)
    · refine lv_iconst (v := 0) hx hb d_Mod_moved_49 (by decide) ?_
      refine q_topi (z := (jb ((cMvC (Q c) x).1))) (by rw [← rMv]; simp [jb, h8]) ?_
      exact J50 _ (lv_sub (l' := [(0, .ref mo), (1, .int (nI c)), (2, .int x), (3, .int (nI r))]) hl [0, 1, 2, 3] rfl)
    · refine lv_aload_n hx hb d_Mod_moved_11 rfl (lv_at hl 0 rfl) ?_
      refine q_get S hw ly_Mod 0 rfl rfl 2 (by decide) tb_5_45 rfl rfl d_Mod_moved_12 ?_
      refine lv_iload_n hx hb d_Mod_moved_15 rfl (lv_at hl 1 rfl) ?_
      refine q_ialdN (k := c) S hw 3 0 rfl rfl (by first | assumption | omega) (by decide) d_Mod_moved_16 ?_
      refine q_cr (q_runS (As := [.int ((Q c).2.2)]) (rest := [.int (nI r), .ref mo]) S ((c_Mod_type l D (ty4 ti) ((Q c).2.2)).nil _) (cw_s hts tb_5_184 k_Mod_type rfl rfl ⟨by decide, by decide⟩) hw rfl hl.1 rfl (Nat.le_of_ble_eq_true rfl) d_Mod_moved_17 ⟨Nat.zero_le _, Nat.zero_le _⟩) ?_
      refine W.eq (g2 := F0 m9 20 ls [.int (cType ((Q c).2.2)), .int (nI r), .ref mo]) rfl ?_
      refine lv_bipush (v := 15) hx hb d_Mod_moved_20 (by decide) ?_
      refine lv_icmp_ne hx hb d_Mod_moved_22 rfl (fun h22 => ?_) (fun h22 => ?_)
      · refine lv_iconst (v := 0) hx hb d_Mod_moved_49 (by decide) ?_
        refine q_topi (z := (jb ((cMvC (Q c) x).1))) (by rw [← rMv]; simp [jb, h8, h22]) ?_
        exact J50 _ (lv_sub (l' := [(0, .ref mo), (1, .int (nI c)), (2, .int x), (3, .int (nI r))]) hl [0, 1, 2, 3] rfl)
      · refine lv_aload_n hx hb d_Mod_moved_25 rfl (lv_at hl 0 rfl) ?_
        refine lv_aload_n hx hb d_Mod_moved_26 rfl (lv_at hl 0 rfl) ?_
        refine q_get S hw ly_Mod 0 rfl rfl 2 (by decide) tb_5_45 rfl rfl d_Mod_moved_27 ?_
        refine lv_iload_n hx hb d_Mod_moved_30 rfl (lv_at hl 1 rfl) ?_
        refine q_ialdN (k := c) S hw 3 0 rfl rfl (by first | assumption | omega) (by decide) d_Mod_moved_31 ?_
        refine lv_aload_n hx hb d_Mod_moved_32 rfl (lv_at hl 0 rfl) ?_
        refine q_get S hw ly_Mod 0 rfl rfl 1 (by decide) tb_5_44 rfl rfl d_Mod_moved_33 ?_
        refine lv_iload_n hx hb d_Mod_moved_36 rfl (lv_at hl 1 rfl) ?_
        refine q_ialdN (k := c) S hw 2 0 rfl rfl (by first | assumption | omega) (by decide) d_Mod_moved_37 ?_
        refine lv_iload_n hx hb d_Mod_moved_38 rfl (lv_at hl 2 rfl) ?_
        refine q_cr (q_runV (As := [.int ((Q c).2.2), .int ((Q c).2.1), .int x]) (rest := [.int (nI r), .ref mo]) S (c_Mod_same l D ti mo am Q w g rb rt rp ro ca va st tr th ha pk xx rd to ((Q c).2.2) ((Q c).2.1) x) (cw_v hts tb_5_222 k_Mod_same rfl rfl ⟨by decide, by decide⟩) hw 0 rfl rfl rfl hl.1 rfl (Nat.le_of_ble_eq_true rfl) d_Mod_moved_39 ⟨Nat.zero_le _, Nat.zero_le _⟩) ?_
        refine W.eq (g2 := F0 m9 42 ls [.int (jb (rSame ((Q c).2.2) ((Q c).2.1) x)), .int (nI r), .ref mo]) rfl ?_
        refine q_ifz_eq S d_Mod_moved_42 rfl (fun h42 => ?_) (fun h42 => ?_)
        · refine lv_iconst (v := 0) hx hb d_Mod_moved_49 (by decide) ?_
          refine q_topi (z := (jb ((cMvC (Q c) x).1))) (by rw [← rMv]; simp [jb, h8, h22, h42]) ?_
          exact J50 _ (lv_sub (l' := [(0, .ref mo), (1, .int (nI c)), (2, .int x), (3, .int (nI r))]) hl [0, 1, 2, 3] rfl)
        · refine lv_iconst (v := 1) hx hb d_Mod_moved_45 (by decide) ?_
          refine lv_goto hx hb d_Mod_moved_46 rfl ?_
          refine q_topi (z := (jb ((cMvC (Q c) x).1))) (by rw [← rMv]; simp [jb, h8, h22, h42]) ?_
          exact J50 _ (lv_sub (l' := [(0, .ref mo), (1, .int (nI c)), (2, .int x), (3, .int (nI r))]) hl [0, 1, 2, 3] rfl)
set_option maxHeartbeats 4000000 in
set_option maxRecDepth 100000 in
theorem c_Mod_has (l : Launch) (D : va_G) (ti : Nat → ClassId) (mo : Nat) (am : Nat → Nat) (Q : Nat → Cap) (w g : Nat → Int32) (rb rt : Nat → Int64) (rp : Nat → Int32) (ro ca va st tr th : Int32) (ha : Bool) (pk : Int32) (xx : Bool) (rd : Int64) (to : Int32) (c : Nat) (hc : c < 40) (p : Nat) (hp : p < 32) : Cr l y_Mod_has (wl y_Mod_has b_Mod_has 3 (some .boolean)) (rmL 1) D clz (ty4 ti) [.ref mo, .int (nI c), .int (nI p)] (RMW mo am ti Q w g rb rt rp ro ca va st tr th ha pk xx rd to) (some (.int (jb (cMay (Q c).2.2 (nI p))))) := by
  refine Cr.ofF (plainFor_of_name (by decide)) (Nat.le_of_ble_eq_true rfl) ?_
  intro p9 e9 s9 m9 b9 me9 c9 ls S hr hlk hl hw
  obtain ⟨hx, hb, hml, hown, hts⟩ := id S
  have hl : lv_has ls 3 [(0, .ref mo), (1, .int (nI c)), (2, .int (nI p))] := hl
  refine lv_aload_n hx hb d_Mod_has_0 rfl (lv_at hl 0 rfl) ?_
  refine q_get S hw ly_Mod 0 rfl rfl 2 (by decide) tb_5_45 rfl rfl d_Mod_has_1 ?_
  refine lv_iload_n hx hb d_Mod_has_4 rfl (lv_at hl 1 rfl) ?_
  refine q_ialdN (k := c) S hw 3 0 rfl rfl (by first | assumption | omega) (by decide) d_Mod_has_5 ?_
  refine q_cr (q_runS (As := [.int ((Q c).2.2)]) (rest := []) S ((c_Mod_perms l D (ty4 ti) ((Q c).2.2)).nil _) (cw_s hts tb_5_191 k_Mod_perms rfl rfl ⟨by decide, by decide⟩) hw rfl hl.1 rfl (Nat.le_of_ble_eq_true rfl) d_Mod_has_6 ⟨Nat.zero_le _, Nat.zero_le _⟩) ?_
  refine W.eq (g2 := F0 m9 9 ls [.int (cPerms ((Q c).2.2))]) rfl ?_
  refine lv_iload_n hx hb d_Mod_has_9 rfl (lv_at hl 2 rfl) ?_
  refine lv_ishr hx hb d_Mod_has_10 ?_
  refine lv_iconst (v := 1) hx hb d_Mod_has_11 (by decide) ?_
  refine lv_iand hx hb d_Mod_has_12 ?_
  refine lv_iconst (v := 1) hx hb d_Mod_has_13 (by decide) ?_
  refine lv_icmp_ne hx hb d_Mod_has_14 rfl (fun h14 => ?_) (fun h14 => ?_)
  · refine lv_iconst (v := 0) hx hb d_Mod_has_21 (by decide) ?_
    exact rd_i S hr hlk rfl d_Mod_has_22 (by rw [Bool.eq_false_iff.mpr (fun q => h14 ((r_may1 _ p hp).mpr q))]; rfl)
  · refine lv_iconst (v := 1) hx hb d_Mod_has_17 (by decide) ?_
    refine lv_goto hx hb d_Mod_has_18 rfl ?_
    exact rd_i S hr hlk rfl d_Mod_has_22 (by rw [(r_may1 _ p hp).mp h14]; rfl)
set_option maxHeartbeats 4000000 in
set_option maxRecDepth 100000 in
theorem c_Mod_isOpen (l : Launch) (D : va_G) (ti : Nat → ClassId) (mo : Nat) (am : Nat → Nat) (Q : Nat → Cap) (w g : Nat → Int32) (rb rt : Nat → Int64) (rp : Nat → Int32) (ro ca va st tr th : Int32) (ha : Bool) (pk : Int32) (xx : Bool) (rd : Int64) (to : Int32) (c : Nat) (hc : c < 40) : Cr l y_Mod_isOpen (wl y_Mod_isOpen b_Mod_isOpen 2 (some .boolean)) (rmL 1) D clz (ty4 ti) [.ref mo, .int (nI c)] (RMW mo am ti Q w g rb rt rp ro ca va st tr th ha pk xx rd to) (some (.int (jb (cOpen (Q c).2.2)))) := by
  refine Cr.ofF (plainFor_of_name (by decide)) (Nat.le_of_ble_eq_true rfl) ?_
  intro p9 e9 s9 m9 b9 me9 c9 ls S hr hlk hl hw
  obtain ⟨hx, hb, hml, hown, hts⟩ := id S
  have hl : lv_has ls 2 [(0, .ref mo), (1, .int (nI c))] := hl
  refine lv_aload_n hx hb d_Mod_isOpen_0 rfl (lv_at hl 0 rfl) ?_
  refine q_get S hw ly_Mod 0 rfl rfl 2 (by decide) tb_5_45 rfl rfl d_Mod_isOpen_1 ?_
  refine lv_iload_n hx hb d_Mod_isOpen_4 rfl (lv_at hl 1 rfl) ?_
  refine q_ialdN (k := c) S hw 3 0 rfl rfl (by first | assumption | omega) (by decide) d_Mod_isOpen_5 ?_
  refine q_cr (q_runS (As := [.int ((Q c).2.2)]) (rest := []) S ((c_Mod_type l D (ty4 ti) ((Q c).2.2)).nil _) (cw_s hts tb_5_184 k_Mod_type rfl rfl ⟨by decide, by decide⟩) hw rfl hl.1 rfl (Nat.le_of_ble_eq_true rfl) d_Mod_isOpen_6 ⟨Nat.zero_le _, Nat.zero_le _⟩) ?_
  refine W.eq (g2 := F0 m9 9 ls [.int (cType ((Q c).2.2))]) rfl ?_
  refine lv_bipush (v := 15) hx hb d_Mod_isOpen_9 (by decide) ?_
  refine lv_icmp_ne hx hb d_Mod_isOpen_11 rfl (fun h11 => ?_) (fun h11 => ?_)
  · refine lv_iconst (v := 0) hx hb d_Mod_isOpen_18 (by decide) ?_
    exact rd_i S hr hlk rfl d_Mod_isOpen_19 (by simp [cOpen, jb, h11])
  · refine lv_iconst (v := 1) hx hb d_Mod_isOpen_14 (by decide) ?_
    refine lv_goto hx hb d_Mod_isOpen_15 rfl ?_
    exact rd_i S hr hlk rfl d_Mod_isOpen_19 (by simp [cOpen, jb, h11])
set_option maxHeartbeats 4000000 in
set_option maxRecDepth 100000 in
theorem c_Mod_holds (l : Launch) (D : va_G) (ti : Nat → ClassId) (mo : Nat) (am : Nat → Nat) (Q : Nat → Cap) (w g : Nat → Int32) (rb rt : Nat → Int64) (rp : Nat → Int32) (ro ca va st tr th : Int32) (ha : Bool) (pk : Int32) (xx : Bool) (rd : Int64) (to : Int32) (c : Nat) (hc : c < 40) (y n : Int32) : Cr l y_Mod_holds (wl y_Mod_holds b_Mod_holds 5 (some .boolean)) (rmL 5) D clz (ty4 ti) [.ref mo, .int (nI c), .long (cLow y), .int n] (RMW mo am ti Q w g rb rt rp ro ca va st tr th ha pk xx rd to) (some (.int (jb (rHo (Q c) y n)))) := by
  refine Cr.ofF (plainFor_of_name (by decide)) (Nat.le_of_ble_eq_true rfl) ?_
  intro p9 e9 s9 m9 b9 me9 c9 ls S hr hlk hl hw
  obtain ⟨hx, hb, hml, hown, hts⟩ := id S
  have hl : lv_has ls 5 [(0, .ref mo), (1, .int (nI c)), (2, .long (cLow y)), (4, .int n)] := hl
  refine lv_aload_n hx hb d_Mod_holds_0 rfl (lv_at hl 0 rfl) ?_
  refine q_get S hw ly_Mod 0 rfl rfl 2 (by decide) tb_5_45 rfl rfl d_Mod_holds_1 ?_
  refine lv_iload_n hx hb d_Mod_holds_4 rfl (lv_at hl 1 rfl) ?_
  refine q_ialdN (k := c) S hw 3 0 rfl rfl (by first | assumption | omega) (by decide) d_Mod_holds_5 ?_
  refine lv_aload_n hx hb d_Mod_holds_6 rfl (lv_at hl 0 rfl) ?_
  refine q_get S hw ly_Mod 0 rfl rfl 1 (by decide) tb_5_44 rfl rfl d_Mod_holds_7 ?_
  refine lv_iload_n hx hb d_Mod_holds_10 rfl (lv_at hl 1 rfl) ?_
  refine q_ialdN (k := c) S hw 2 0 rfl rfl (by first | assumption | omega) (by decide) d_Mod_holds_11 ?_
  refine lv_lload_n hx hb d_Mod_holds_12 rfl (lv_at hl 2 rfl) ?_
  refine lv_iload hx hb d_Mod_holds_13 (lv_at hl 3 rfl) ?_
  refine q_cr (q_runS (As := [.int ((Q c).2.2), .int ((Q c).2.1), .long (cLow y), .int n]) (rest := []) S ((c_Mod_isIn l D (ty4 ti) ((Q c).2.2) ((Q c).2.1) y n).nil _) (cw_s hts tb_5_198 k_Mod_isIn rfl rfl ⟨by decide, by decide⟩) hw rfl hl.1 rfl (Nat.le_of_ble_eq_true rfl) d_Mod_holds_15 ⟨Nat.zero_le _, Nat.zero_le _⟩) ?_
  refine W.eq (g2 := F0 m9 18 ls [.int (jb (cCov (cbase ((Q c).2.2) ((Q c).2.1)) (ctop ((Q c).2.2) ((Q c).2.1)) y n.toInt64))]) rfl ?_
  exact rd_i S hr hlk (jb_nar _) d_Mod_holds_18 (rfl)
set_option maxHeartbeats 4000000 in
set_option maxRecDepth 100000 in
theorem c_Mod_isWithin (l : Launch) (D : va_G) (ti : Nat → ClassId) (mo : Nat) (am : Nat → Nat) (Q : Nat → Cap) (w g : Nat → Int32) (rb rt : Nat → Int64) (rp : Nat → Int32) (ro ca va st tr th : Int32) (ha : Bool) (pk : Int32) (xx : Bool) (rd : Int64) (to : Int32) (d c : Nat) (hd : d < 40) (hc : c < 40) : Cr l y_Mod_isWithin (wl y_Mod_isWithin b_Mod_isWithin 3 (some .boolean)) (rmL 4) D clz (ty4 ti) [.ref mo, .int (nI d), .int (nI c)] (RMW mo am ti Q w g rb rt rp ro ca va st tr th ha pk xx rd to) (some (.int (jb (rWi (Q d) (Q c))))) := by
  refine Cr.ofF (plainFor_of_name (by decide)) (Nat.le_of_ble_eq_true rfl) ?_
  intro p9 e9 s9 m9 b9 me9 c9 ls S hr hlk hl hw
  obtain ⟨hx, hb, hml, hown, hts⟩ := id S
  have hl : lv_has ls 3 [(0, .ref mo), (1, .int (nI d)), (2, .int (nI c))] := hl
  refine lv_aload_n hx hb d_Mod_isWithin_0 rfl (lv_at hl 0 rfl) ?_
  refine q_get S hw ly_Mod 0 rfl rfl 2 (by decide) tb_5_45 rfl rfl d_Mod_isWithin_1 ?_
  refine lv_iload_n hx hb d_Mod_isWithin_4 rfl (lv_at hl 1 rfl) ?_
  refine q_ialdN (k := d) S hw 3 0 rfl rfl (by first | assumption | omega) (by decide) d_Mod_isWithin_5 ?_
  refine lv_aload_n hx hb d_Mod_isWithin_6 rfl (lv_at hl 0 rfl) ?_
  refine q_get S hw ly_Mod 0 rfl rfl 1 (by decide) tb_5_44 rfl rfl d_Mod_isWithin_7 ?_
  refine lv_iload_n hx hb d_Mod_isWithin_10 rfl (lv_at hl 1 rfl) ?_
  refine q_ialdN (k := d) S hw 2 0 rfl rfl (by first | assumption | omega) (by decide) d_Mod_isWithin_11 ?_
  refine q_cr (q_runS (As := [.int ((Q d).2.2), .int ((Q d).2.1)]) (rest := []) S ((c_Mod_base l D (ty4 ti) ((Q d).2.2) ((Q d).2.1)).nil _) (cw_s hts tb_5_135 k_Mod_base rfl rfl ⟨by decide, by decide⟩) hw rfl hl.1 rfl (Nat.le_of_ble_eq_true rfl) d_Mod_isWithin_12 ⟨Nat.zero_le _, Nat.zero_le _⟩) ?_
  refine W.eq (g2 := F0 m9 15 ls [.long (cbase ((Q d).2.2) ((Q d).2.1))]) rfl ?_
  refine lv_aload_n hx hb d_Mod_isWithin_15 rfl (lv_at hl 0 rfl) ?_
  refine q_get S hw ly_Mod 0 rfl rfl 2 (by decide) tb_5_45 rfl rfl d_Mod_isWithin_16 ?_
  refine lv_iload_n hx hb d_Mod_isWithin_19 rfl (lv_at hl 2 rfl) ?_
  refine q_ialdN (k := c) S hw 3 0 rfl rfl (by first | assumption | omega) (by decide) d_Mod_isWithin_20 ?_
  refine lv_aload_n hx hb d_Mod_isWithin_21 rfl (lv_at hl 0 rfl) ?_
  refine q_get S hw ly_Mod 0 rfl rfl 1 (by decide) tb_5_44 rfl rfl d_Mod_isWithin_22 ?_
  refine lv_iload_n hx hb d_Mod_isWithin_25 rfl (lv_at hl 2 rfl) ?_
  refine q_ialdN (k := c) S hw 2 0 rfl rfl (by first | assumption | omega) (by decide) d_Mod_isWithin_26 ?_
  refine q_cr (q_runS (As := [.int ((Q c).2.2), .int ((Q c).2.1)]) (rest := [.long (cbase ((Q d).2.2) ((Q d).2.1))]) S ((c_Mod_base l D (ty4 ti) ((Q c).2.2) ((Q c).2.1)).nil _) (cw_s hts tb_5_135 k_Mod_base rfl rfl ⟨by decide, by decide⟩) hw rfl hl.1 rfl (Nat.le_of_ble_eq_true rfl) d_Mod_isWithin_27 ⟨Nat.zero_le _, Nat.zero_le _⟩) ?_
  refine W.eq (g2 := F0 m9 30 ls [.long (cbase ((Q c).2.2) ((Q c).2.1)), .long (cbase ((Q d).2.2) ((Q d).2.1))]) rfl ?_
  refine q_lc_lt S d_Mod_isWithin_30 d_Mod_isWithin_31 rfl (fun h31 => ?_) (fun h31 => ?_)
  · refine lv_iconst (v := 0) hx hb d_Mod_isWithin_72 (by decide) ?_
    exact rd_i S hr hlk rfl d_Mod_isWithin_73 (by simp [rWi, jb, h31])
  · refine lv_aload_n hx hb d_Mod_isWithin_34 rfl (lv_at hl 0 rfl) ?_
    refine q_get S hw ly_Mod 0 rfl rfl 2 (by decide) tb_5_45 rfl rfl d_Mod_isWithin_35 ?_
    refine lv_iload_n hx hb d_Mod_isWithin_38 rfl (lv_at hl 1 rfl) ?_
    refine q_ialdN (k := d) S hw 3 0 rfl rfl (by first | assumption | omega) (by decide) d_Mod_isWithin_39 ?_
    refine lv_aload_n hx hb d_Mod_isWithin_40 rfl (lv_at hl 0 rfl) ?_
    refine q_get S hw ly_Mod 0 rfl rfl 1 (by decide) tb_5_44 rfl rfl d_Mod_isWithin_41 ?_
    refine lv_iload_n hx hb d_Mod_isWithin_44 rfl (lv_at hl 1 rfl) ?_
    refine q_ialdN (k := d) S hw 2 0 rfl rfl (by first | assumption | omega) (by decide) d_Mod_isWithin_45 ?_
    refine q_cr (q_runS (As := [.int ((Q d).2.2), .int ((Q d).2.1)]) (rest := []) S ((c_Mod_top l D (ty4 ti) ((Q d).2.2) ((Q d).2.1)).nil _) (cw_s hts tb_5_153 k_Mod_top rfl rfl ⟨by decide, by decide⟩) hw rfl hl.1 rfl (Nat.le_of_ble_eq_true rfl) d_Mod_isWithin_46 ⟨Nat.zero_le _, Nat.zero_le _⟩) ?_
    refine W.eq (g2 := F0 m9 49 ls [.long (ctop ((Q d).2.2) ((Q d).2.1))]) rfl ?_
    refine lv_aload_n hx hb d_Mod_isWithin_49 rfl (lv_at hl 0 rfl) ?_
    refine q_get S hw ly_Mod 0 rfl rfl 2 (by decide) tb_5_45 rfl rfl d_Mod_isWithin_50 ?_
    refine lv_iload_n hx hb d_Mod_isWithin_53 rfl (lv_at hl 2 rfl) ?_
    refine q_ialdN (k := c) S hw 3 0 rfl rfl (by first | assumption | omega) (by decide) d_Mod_isWithin_54 ?_
    refine lv_aload_n hx hb d_Mod_isWithin_55 rfl (lv_at hl 0 rfl) ?_
    refine q_get S hw ly_Mod 0 rfl rfl 1 (by decide) tb_5_44 rfl rfl d_Mod_isWithin_56 ?_
    refine lv_iload_n hx hb d_Mod_isWithin_59 rfl (lv_at hl 2 rfl) ?_
    refine q_ialdN (k := c) S hw 2 0 rfl rfl (by first | assumption | omega) (by decide) d_Mod_isWithin_60 ?_
    refine q_cr (q_runS (As := [.int ((Q c).2.2), .int ((Q c).2.1)]) (rest := [.long (ctop ((Q d).2.2) ((Q d).2.1))]) S ((c_Mod_top l D (ty4 ti) ((Q c).2.2) ((Q c).2.1)).nil _) (cw_s hts tb_5_153 k_Mod_top rfl rfl ⟨by decide, by decide⟩) hw rfl hl.1 rfl (Nat.le_of_ble_eq_true rfl) d_Mod_isWithin_61 ⟨Nat.zero_le _, Nat.zero_le _⟩) ?_
    refine W.eq (g2 := F0 m9 64 ls [.long (ctop ((Q c).2.2) ((Q c).2.1)), .long (ctop ((Q d).2.2) ((Q d).2.1))]) rfl ?_
    refine q_lc_gt S d_Mod_isWithin_64 d_Mod_isWithin_65 rfl (fun h65 => ?_) (fun h65 => ?_)
    · refine lv_iconst (v := 0) hx hb d_Mod_isWithin_72 (by decide) ?_
      exact rd_i S hr hlk rfl d_Mod_isWithin_73 (by simp [rWi, jb, h31, h65])
    · refine lv_iconst (v := 1) hx hb d_Mod_isWithin_68 (by decide) ?_
      refine lv_goto hx hb d_Mod_isWithin_69 rfl ?_
      exact rd_i S hr hlk rfl d_Mod_isWithin_73 (by simp [rWi, jb, h31, h65])
set_option maxHeartbeats 4000000 in
set_option maxRecDepth 100000 in
theorem c_Mod_isAmong (l : Launch) (D : va_G) (ti : Nat → ClassId) (mo : Nat) (am : Nat → Nat) (Q : Nat → Cap) (w g : Nat → Int32) (rb rt : Nat → Int64) (rp : Nat → Int32) (ro ca va st tr th : Int32) (ha : Bool) (pk : Int32) (xx : Bool) (rd : Int64) (to : Int32) (d c : Nat) (hd : d < 40) (hc : c < 40) : Cr l y_Mod_isAmong (wl y_Mod_isAmong b_Mod_isAmong 3 (some .boolean)) (rmL 1) D clz (ty4 ti) [.ref mo, .int (nI d), .int (nI c)] (RMW mo am ti Q w g rb rt rp ro ca va st tr th ha pk xx rd to) (some (.int (jb (rAm (Q d) (Q c))))) := by
  refine Cr.ofF (plainFor_of_name (by decide)) (Nat.le_of_ble_eq_true rfl) ?_
  intro p9 e9 s9 m9 b9 me9 c9 ls S hr hlk hl hw
  obtain ⟨hx, hb, hml, hown, hts⟩ := id S
  have hl : lv_has ls 3 [(0, .ref mo), (1, .int (nI d)), (2, .int (nI c))] := hl
  refine lv_aload_n hx hb d_Mod_isAmong_0 rfl (lv_at hl 0 rfl) ?_
  refine q_get S hw ly_Mod 0 rfl rfl 2 (by decide) tb_5_45 rfl rfl d_Mod_isAmong_1 ?_
  refine lv_iload_n hx hb d_Mod_isAmong_4 rfl (lv_at hl 1 rfl) ?_
  refine q_ialdN (k := d) S hw 3 0 rfl rfl (by first | assumption | omega) (by decide) d_Mod_isAmong_5 ?_
  refine q_cr (q_runS (As := [.int ((Q d).2.2)]) (rest := []) S ((c_Mod_perms l D (ty4 ti) ((Q d).2.2)).nil _) (cw_s hts tb_5_191 k_Mod_perms rfl rfl ⟨by decide, by decide⟩) hw rfl hl.1 rfl (Nat.le_of_ble_eq_true rfl) d_Mod_isAmong_6 ⟨Nat.zero_le _, Nat.zero_le _⟩) ?_
  refine W.eq (g2 := F0 m9 9 ls [.int (cPerms ((Q d).2.2))]) rfl ?_
  refine lv_aload_n hx hb d_Mod_isAmong_9 rfl (lv_at hl 0 rfl) ?_
  refine q_get S hw ly_Mod 0 rfl rfl 2 (by decide) tb_5_45 rfl rfl d_Mod_isAmong_10 ?_
  refine lv_iload_n hx hb d_Mod_isAmong_13 rfl (lv_at hl 2 rfl) ?_
  refine q_ialdN (k := c) S hw 3 0 rfl rfl (by first | assumption | omega) (by decide) d_Mod_isAmong_14 ?_
  refine q_cr (q_runS (As := [.int ((Q c).2.2)]) (rest := [.int (cPerms ((Q d).2.2))]) S ((c_Mod_perms l D (ty4 ti) ((Q c).2.2)).nil _) (cw_s hts tb_5_191 k_Mod_perms rfl rfl ⟨by decide, by decide⟩) hw rfl hl.1 rfl (Nat.le_of_ble_eq_true rfl) d_Mod_isAmong_15 ⟨Nat.zero_le _, Nat.zero_le _⟩) ?_
  refine W.eq (g2 := F0 m9 18 ls [.int (cPerms ((Q c).2.2)), .int (cPerms ((Q d).2.2))]) rfl ?_
  refine lv_iconst (v := -1) hx hb d_Mod_isAmong_18 (by decide) ?_
  refine lv_ixor hx hb d_Mod_isAmong_19 ?_
  refine lv_iand hx hb d_Mod_isAmong_20 ?_
  refine lv_if_ne hx hb d_Mod_isAmong_21 rfl (fun h21 => ?_) (fun h21 => ?_)
  · refine lv_iconst (v := 0) hx hb d_Mod_isAmong_28 (by decide) ?_
    exact rd_i S hr hlk rfl d_Mod_isAmong_29 (by unfold rAm; rw [if_neg h21]; rfl)
  · refine lv_iconst (v := 1) hx hb d_Mod_isAmong_24 (by decide) ?_
    refine lv_goto hx hb d_Mod_isAmong_25 rfl ?_
    exact rd_i S hr hlk rfl d_Mod_isAmong_29 (by unfold rAm; rw [if_pos h21]; rfl)
set_option maxHeartbeats 4000000 in
set_option maxRecDepth 100000 in
theorem c_Mod_pack (l : Launch) (D : va_G) (ti : Nat → ClassId) (mo : Nat) (am : Nat → Nat) (Q : Nat → Cap) (w g : Nat → Int32) (rb rt : Nat → Int64) (rp : Nat → Int32) (ro ca va st tr th : Int32) (ha : Bool) (pk : Int32) (xx : Bool) (rd : Int64) (to : Int32) (B T : Nat) (hB : B ≤ T) (hT : T ≤ 4294967296) : Cg l y_Mod_pack (wl y_Mod_pack b_Mod_pack 16 none) (rmL 0) D clz (ty4 ti) [.ref mo, .long (lN B), .long (lN T)] (RMW mo am ti Q w g rb rt rp ro ca va st tr th ha pk xx rd to) (fun _ : Unit => none) (fun _ => (RMW mo am ti Q w g rb rt rp ro ca va st tr th ha (kBits (lN B) (lN T)) (kEx (lN B) (lN T)) (kLen (lN B) (lN T)) to)) (fun _ => True) := by
  refine Cg.ofF (plainFor_of_name (by decide)) (Nat.le_of_ble_eq_true rfl) ?_
  intro p9 e9 s9 m9 b9 me9 c9 ls S hr hlk hl hw
  obtain ⟨hx, hb, hml, hown, hts⟩ := id S
  have hl : lv_has ls 16 [(0, .ref mo), (1, .long (lN B)), (3, .long (lN T))] := hl
  refine lv_lload_n hx hb d_Mod_pack_0 rfl (lv_at hl 2 rfl) ?_
  refine lv_lload_n hx hb d_Mod_pack_1 rfl (lv_at hl 1 rfl) ?_
  refine lv_lsub hx hb d_Mod_pack_2 ?_
  refine q_topl (z := (lN (T - B))) (lN_sub hB) ?_
  refine lv_lstore (lv' := [(5, .long (lN (T - B))), (0, .ref mo), (1, .long (lN B)), (3, .long (lN T))]) hx hb d_Mod_pack_3 hl (by decide) rfl (fun ls hl => ?_)
  refine lv_iconst (v := 0) hx hb d_Mod_pack_5 (by decide) ?_
  refine lv_istore (lv' := [(7, .int (0 : Int32)), (5, .long (lN (T - B))), (0, .ref mo), (1, .long (lN B)), (3, .long (lN T))]) hx hb d_Mod_pack_6 hl (by decide) rfl (fun ls hl => ?_)
  refine q_loop (Z := Nat) (pcL := 8) (st := []) (nL := 16) (fun z => [(7, .int (nI z)), (5, .long (lN (T - B))), (0, .ref mo), (1, .long (lN B)), (3, .long (lN T))]) (fun z => z ≤ 26 ∧ kB (lN ((T - B) / 128)) (63 - z) z = kB (lN ((T - B) / 128)) 63 0) (fun z => 26 - z) (fun z ls hI8 hl IH8 => ?_) 0 (⟨by omega, rfl⟩) (q_loc (l' := [(7, .int (nI 0)), (5, .long (lN (T - B))), (0, .ref mo), (1, .long (lN B)), (3, .long (lN T))]) (lv_sub (l' := [(7, .int (0 : Int32)), (5, .long (lN (T - B))), (0, .ref mo), (1, .long (lN B)), (3, .long (lN T))]) hl [0, 1, 2, 3, 4] rfl) (rfl))
  have hl : lv_has ls 16 [(7, .int (nI z)), (5, .long (lN (T - B))), (0, .ref mo), (1, .long (lN B)), (3, .long (lN T))] := hl
  refine lv_lload hx hb d_Mod_pack_8 (lv_at hl 1 rfl) ?_
  refine lv_ldc2 (v := 128) hx hb hown (hts _ tb_5_127) d_Mod_pack_10 ?_
  refine lv_ldiv hx hb d_Mod_pack_13 (by decide) ?_
  refine lv_iload hx hb d_Mod_pack_14 (lv_at hl 0 rfl) ?_
  refine lv_lshr (v := (jsr ((lN (T - B)) / (128 : Int64)) (nI z))) hx hb d_Mod_pack_16 rfl ?_
  refine q_topl (z := (lN ((T - B) / 128 / 2 ^ z))) (by rw [show (128 : Int64) = lN 128 from rfl, lN_div (by omega) (by decide), wb_sra (by omega) (by omega)]) ?_
  refine lv_lconst (v := 0) hx hb d_Mod_pack_17 (by decide) ?_
  refine q_lc_le S d_Mod_pack_18 d_Mod_pack_19 rfl (fun h19 => ?_) (fun h19 => ?_)
  · have hz0 : (T - B) / 128 / 2 ^ z = 0 := Nat.le_zero.mp ((lN_le2 (a := (T - B) / 128 / 2 ^ z) (b := 0) (Nat.lt_of_le_of_lt (Nat.div_le_self ((T - B) / 128) (2 ^ z)) (by omega)) (by decide)).mp h19)
    have hE0 : kE0 (lN B) (lN T) = nI z := by unfold kE0; rw [lN_sub hB, show (7 : Int32) = nI 7 from rfl, wb_shr (by omega) (by decide), show (2 : Nat) ^ 7 = 128 from rfl, ← hI8.2, kB_stop (by omega) (by omega) hz0]
    refine lv_iload hx hb d_Mod_pack_28 (lv_at hl 0 rfl) ?_
    refine lv_if_ne hx hb d_Mod_pack_30 rfl (fun h30 => ?_) (fun h30 => ?_)
    · have hIn : kIn (lN B) (lN T) = true := by unfold kIn; rw [hE0, if_pos (show (0 : Int32) < nI z from nI_lt (a := 0) (b := z) (by rcases Nat.eq_zero_or_pos z with h | h; exact absurd (by rw [h]; rfl) h30; exact h) (by omega))]
      refine lv_lconst (v := 1) hx hb d_Mod_pack_74 (by decide) ?_
      refine lv_iload hx hb d_Mod_pack_75 (lv_at hl 0 rfl) ?_
      refine lv_iconst (v := 3) hx hb d_Mod_pack_77 (by decide) ?_
      refine lv_iadd hx hb d_Mod_pack_78 ?_
      refine q_topi (z := nI (z + 3)) (nI_add z 3) ?_
      refine lv_lshl (v := (jsl (1 : Int64) (nI (z + 3)))) hx hb d_Mod_pack_79 rfl ?_
      refine q_topl (z := (lN (2 ^ (z + 3)))) (by rw [show (1 : Int64) = lN 1 from rfl, wb_shl 1 (by omega), Nat.one_mul]) ?_
      refine lv_lstore (lv' := [(8, .long (lN (2 ^ (z + 3)))), (7, .int (nI z)), (5, .long (lN (T - B))), (0, .ref mo), (1, .long (lN B)), (3, .long (lN T))]) hx hb d_Mod_pack_80 hl (by decide) rfl (fun ls hl => ?_)
      refine lv_lload_n hx hb d_Mod_pack_82 rfl (lv_at hl 4 rfl) ?_
      refine lv_lload hx hb d_Mod_pack_83 (lv_at hl 0 rfl) ?_
      refine lv_ldiv hx hb d_Mod_pack_85 (nz3 _ (by omega)) ?_
      refine lv_lload hx hb d_Mod_pack_86 (lv_at hl 0 rfl) ?_
      refine lv_lmul hx hb d_Mod_pack_88 ?_
      refine q_topl (z := (lN (nDn B z))) (by have hp := p43 (e := z) (by omega); rw [lN_div (by omega) (by omega), lN_mul]; rfl) ?_
      refine lv_lstore (lv' := [(10, .long (lN (nDn B z))), (8, .long (lN (2 ^ (z + 3)))), (7, .int (nI z)), (5, .long (lN (T - B))), (0, .ref mo), (1, .long (lN B)), (3, .long (lN T))]) hx hb d_Mod_pack_89 hl (by decide) rfl (fun ls hl => ?_)
      refine lv_lload_n hx hb d_Mod_pack_91 rfl (lv_at hl 6 rfl) ?_
      refine lv_lload hx hb d_Mod_pack_92 (lv_at hl 1 rfl) ?_
      refine lv_ladd hx hb d_Mod_pack_94 ?_
      refine lv_lconst (v := 1) hx hb d_Mod_pack_95 (by decide) ?_
      refine lv_lsub hx hb d_Mod_pack_96 ?_
      refine lv_lload hx hb d_Mod_pack_97 (lv_at hl 1 rfl) ?_
      refine lv_ldiv hx hb d_Mod_pack_99 (nz3 _ (by omega)) ?_
      refine lv_lload hx hb d_Mod_pack_100 (lv_at hl 1 rfl) ?_
      refine lv_lmul hx hb d_Mod_pack_102 ?_
      refine q_topl (z := (lN (nUp T z))) (by have hp := p43 (e := z) (by omega); rw [lN_add, show (1 : Int64) = lN 1 from rfl, lN_sub (by omega), lN_div (by omega) (by omega), lN_mul]; rfl) ?_
      refine lv_lstore (lv' := [(12, .long (lN (nUp T z))), (10, .long (lN (nDn B z))), (8, .long (lN (2 ^ (z + 3)))), (7, .int (nI z)), (5, .long (lN (T - B))), (0, .ref mo), (1, .long (lN B)), (3, .long (lN T))]) hx hb d_Mod_pack_103 hl (by decide) rfl (fun ls hl => ?_)
      refine lv_lload hx hb d_Mod_pack_105 (lv_at hl 0 rfl) ?_
      refine lv_lload hx hb d_Mod_pack_107 (lv_at hl 1 rfl) ?_
      refine lv_lsub hx hb d_Mod_pack_109 ?_
      refine lv_lload hx hb d_Mod_pack_110 (lv_at hl 2 rfl) ?_
      refine lv_ldiv hx hb d_Mod_pack_112 (nz3 _ (by omega)) ?_
      refine q_topl (z := (lN ((nUp T z - nDn B z) / 2 ^ (z + 3)))) (by have hp := p43 (e := z) (by omega); have l1 := nUp_le (x := T) (e := z); have l2 := nDn_le (x := B) (e := z); have l3 := nUp_ge (x := T) (e := z); rw [lN_sub (by omega), lN_div (by omega) (by omega)]) ?_
      refine lv_ldc2 (v := 16) hx hb hown (hts _ tb_5_129) d_Mod_pack_113 ?_
      refine q_lc_lt S d_Mod_pack_116 d_Mod_pack_117 rfl (fun h117 => ?_) (fun h117 => ?_)
      · have hE : kE (lN B) (lN T) = nI z := by unfold kE; rw [hIn, if_neg (by decide), hE0, kUp_n (by omega) (by omega), kDn_n (by omega) (by omega), pk_c hB hT (by omega), if_pos h117]
        obtain ⟨eLo, eHi, eBt⟩ := pk_fin hB hT (by omega) hIn hE
        refine lv_lload hx hb d_Mod_pack_154 (lv_at hl 1 rfl) ?_
        refine lv_iload hx hb d_Mod_pack_156 (lv_at hl 3 rfl) ?_
        refine lv_lshr (v := (jsr (lN (nDn B z)) (nI z))) hx hb d_Mod_pack_158 rfl ?_
        refine lv_l2i (v := ((jsr (lN (nDn B z)) (nI z)).toInt32)) hx hb d_Mod_pack_159 rfl ?_
        refine lv_sipush (v := 248) hx hb d_Mod_pack_160 (by decide) ?_
        refine lv_iand hx hb d_Mod_pack_163 ?_
        refine lv_iload hx hb d_Mod_pack_164 (lv_at hl 3 rfl) ?_
        refine lv_bipush (v := 7) hx hb d_Mod_pack_166 (by decide) ?_
        refine lv_iand hx hb d_Mod_pack_168 ?_
        refine lv_ior hx hb d_Mod_pack_169 ?_
        refine lv_istore (lv' := [(14, .int ((((jsr (lN (nDn B z)) (nI z)).toInt32) &&& (248 : Int32)) ||| ((nI z) &&& (7 : Int32)))), (12, .long (lN (nUp T z))), (10, .long (lN (nDn B z))), (8, .long (lN (2 ^ (z + 3)))), (7, .int (nI z)), (5, .long (lN (T - B))), (0, .ref mo), (1, .long (lN B)), (3, .long (lN T))]) hx hb d_Mod_pack_170 hl (by decide) rfl (fun ls hl => ?_)
        refine lv_lload hx hb d_Mod_pack_172 (lv_at hl 1 rfl) ?_
        refine lv_iload hx hb d_Mod_pack_174 (lv_at hl 4 rfl) ?_
        refine lv_lshr (v := (jsr (lN (nUp T z)) (nI z))) hx hb d_Mod_pack_176 rfl ?_
        refine lv_l2i (v := ((jsr (lN (nUp T z)) (nI z)).toInt32)) hx hb d_Mod_pack_177 rfl ?_
        refine lv_bipush (v := 56) hx hb d_Mod_pack_178 (by decide) ?_
        refine lv_iand hx hb d_Mod_pack_180 ?_
        refine lv_iload hx hb d_Mod_pack_181 (lv_at hl 4 rfl) ?_
        refine lv_iconst (v := 3) hx hb d_Mod_pack_183 (by decide) ?_
        refine lv_ishr hx hb d_Mod_pack_184 ?_
        refine lv_ior hx hb d_Mod_pack_185 ?_
        refine lv_istore (lv' := [(15, .int ((((jsr (lN (nUp T z)) (nI z)).toInt32) &&& (56 : Int32)) ||| ((nI z) >>> ((3 : Int32) &&& 31)))), (14, .int ((((jsr (lN (nDn B z)) (nI z)).toInt32) &&& (248 : Int32)) ||| ((nI z) &&& (7 : Int32)))), (12, .long (lN (nUp T z))), (10, .long (lN (nDn B z))), (8, .long (lN (2 ^ (z + 3)))), (7, .int (nI z)), (5, .long (lN (T - B))), (0, .ref mo), (1, .long (lN B)), (3, .long (lN T))]) hx hb d_Mod_pack_186 hl (by decide) rfl (fun ls hl => ?_)
        refine lv_aload_n hx hb d_Mod_pack_188 rfl (lv_at hl 7 rfl) ?_
        refine lv_sipush (v := 16384) hx hb d_Mod_pack_189 (by decide) ?_
        refine lv_iload hx hb d_Mod_pack_192 (lv_at hl 0 rfl) ?_
        refine lv_bipush (v := 8) hx hb d_Mod_pack_194 (by decide) ?_
        refine lv_ishl hx hb d_Mod_pack_196 ?_
        refine lv_ior hx hb d_Mod_pack_197 ?_
        refine lv_iload hx hb d_Mod_pack_198 (lv_at hl 1 rfl) ?_
        refine lv_ior hx hb d_Mod_pack_200 ?_
        refine q_put (v := .int (((16384 : Int32) ||| (((((jsr (lN (nUp T z)) (nI z)).toInt32) &&& (56 : Int32)) ||| ((nI z) >>> ((3 : Int32) &&& 31))) <<< ((8 : Int32) &&& 31))) ||| ((((jsr (lN (nDn B z)) (nI z)).toInt32) &&& (248 : Int32)) ||| ((nI z) &&& (7 : Int32))))) S hw ly_Mod t_Mod t_Mod_ok n_Mod 0 rfl rfl 15 (by decide) tb_5_58 rfl rfl rfl rfl (Nat.le_of_ble_eq_true rfl) d_Mod_pack_201 (fun H locs hw => ?_)
        have hw : Lv _ _ _ _ _ (RMW mo am ti Q w g rb rt rp ro ca va st tr th ha (((16384 : Int32) ||| (((((jsr (lN (nUp T z)) (nI z)).toInt32) &&& (56 : Int32)) ||| ((nI z) >>> ((3 : Int32) &&& 31))) <<< ((8 : Int32) &&& 31))) ||| ((((jsr (lN (nDn B z)) (nI z)).toInt32) &&& (248 : Int32)) ||| ((nI z) &&& (7 : Int32)))) xx rd to) _ _ _ := hw
        refine lv_aload_n hx hb d_Mod_pack_204 rfl (lv_at hl 7 rfl) ?_
        refine lv_lload hx hb d_Mod_pack_205 (lv_at hl 3 rfl) ?_
        refine lv_lload_n hx hb d_Mod_pack_207 rfl (lv_at hl 8 rfl) ?_
        refine q_lc_ne S d_Mod_pack_208 d_Mod_pack_209 rfl (fun h209 => ?_) (fun h209 => ?_)
        · refine lv_iconst (v := 0) hx hb d_Mod_pack_223 (by decide) ?_
          refine q_put (v := .int (jb false)) S hw ly_Mod t_Mod t_Mod_ok n_Mod 0 rfl rfl 16 (by decide) tb_5_59 rfl rfl (jb_nar false) (jb_fit false) (Nat.le_of_ble_eq_true rfl) d_Mod_pack_224 (fun H locs hw => ?_)
          have hw : Lv _ _ _ _ _ (RMW mo am ti Q w g rb rt rp ro ca va st tr th ha (((16384 : Int32) ||| (((((jsr (lN (nUp T z)) (nI z)).toInt32) &&& (56 : Int32)) ||| ((nI z) >>> ((3 : Int32) &&& 31))) <<< ((8 : Int32) &&& 31))) ||| ((((jsr (lN (nDn B z)) (nI z)).toInt32) &&& (248 : Int32)) ||| ((nI z) &&& (7 : Int32)))) false rd to) _ _ _ := hw
          refine lv_aload_n hx hb d_Mod_pack_227 rfl (lv_at hl 7 rfl) ?_
          refine lv_lload hx hb d_Mod_pack_228 (lv_at hl 2 rfl) ?_
          refine lv_lload hx hb d_Mod_pack_230 (lv_at hl 3 rfl) ?_
          refine lv_lsub hx hb d_Mod_pack_232 ?_
          refine q_put (v := .long ((lN (nUp T z)) - (lN (nDn B z)))) S hw ly_Mod t_Mod t_Mod_ok n_Mod 0 rfl rfl 17 (by decide) tb_5_60 rfl rfl rfl rfl (Nat.le_of_ble_eq_true rfl) d_Mod_pack_233 (fun H locs hw => ?_)
          have hw : Lv _ _ _ _ _ (RMW mo am ti Q w g rb rt rp ro ca va st tr th ha (((16384 : Int32) ||| (((((jsr (lN (nUp T z)) (nI z)).toInt32) &&& (56 : Int32)) ||| ((nI z) >>> ((3 : Int32) &&& 31))) <<< ((8 : Int32) &&& 31))) ||| ((((jsr (lN (nDn B z)) (nI z)).toInt32) &&& (248 : Int32)) ||| ((nI z) &&& (7 : Int32)))) false ((lN (nUp T z)) - (lN (nDn B z))) to) _ _ _ := hw
          exact hw.rv S hr hlk d_Mod_pack_236 () (rfl) (trivial) (by unfold kEx kLen; rw [eLo, eHi, eBt, if_neg h209]; rfl)
        · refine lv_lload hx hb d_Mod_pack_212 (lv_at hl 2 rfl) ?_
          refine lv_lload_n hx hb d_Mod_pack_214 rfl (lv_at hl 9 rfl) ?_
          refine q_lc_ne S d_Mod_pack_215 d_Mod_pack_216 rfl (fun h216 => ?_) (fun h216 => ?_)
          · refine lv_iconst (v := 0) hx hb d_Mod_pack_223 (by decide) ?_
            refine q_put (v := .int (jb false)) S hw ly_Mod t_Mod t_Mod_ok n_Mod 0 rfl rfl 16 (by decide) tb_5_59 rfl rfl (jb_nar false) (jb_fit false) (Nat.le_of_ble_eq_true rfl) d_Mod_pack_224 (fun H locs hw => ?_)
            have hw : Lv _ _ _ _ _ (RMW mo am ti Q w g rb rt rp ro ca va st tr th ha (((16384 : Int32) ||| (((((jsr (lN (nUp T z)) (nI z)).toInt32) &&& (56 : Int32)) ||| ((nI z) >>> ((3 : Int32) &&& 31))) <<< ((8 : Int32) &&& 31))) ||| ((((jsr (lN (nDn B z)) (nI z)).toInt32) &&& (248 : Int32)) ||| ((nI z) &&& (7 : Int32)))) false rd to) _ _ _ := hw
            refine lv_aload_n hx hb d_Mod_pack_227 rfl (lv_at hl 7 rfl) ?_
            refine lv_lload hx hb d_Mod_pack_228 (lv_at hl 2 rfl) ?_
            refine lv_lload hx hb d_Mod_pack_230 (lv_at hl 3 rfl) ?_
            refine lv_lsub hx hb d_Mod_pack_232 ?_
            refine q_put (v := .long ((lN (nUp T z)) - (lN (nDn B z)))) S hw ly_Mod t_Mod t_Mod_ok n_Mod 0 rfl rfl 17 (by decide) tb_5_60 rfl rfl rfl rfl (Nat.le_of_ble_eq_true rfl) d_Mod_pack_233 (fun H locs hw => ?_)
            have hw : Lv _ _ _ _ _ (RMW mo am ti Q w g rb rt rp ro ca va st tr th ha (((16384 : Int32) ||| (((((jsr (lN (nUp T z)) (nI z)).toInt32) &&& (56 : Int32)) ||| ((nI z) >>> ((3 : Int32) &&& 31))) <<< ((8 : Int32) &&& 31))) ||| ((((jsr (lN (nDn B z)) (nI z)).toInt32) &&& (248 : Int32)) ||| ((nI z) &&& (7 : Int32)))) false ((lN (nUp T z)) - (lN (nDn B z))) to) _ _ _ := hw
            exact hw.rv S hr hlk d_Mod_pack_236 () (rfl) (trivial) (by unfold kEx kLen; rw [eLo, eHi, eBt, if_pos h209, if_neg h216]; rfl)
          · refine lv_iconst (v := 1) hx hb d_Mod_pack_219 (by decide) ?_
            refine lv_goto hx hb d_Mod_pack_220 rfl ?_
            refine q_put (v := .int (jb true)) S hw ly_Mod t_Mod t_Mod_ok n_Mod 0 rfl rfl 16 (by decide) tb_5_59 rfl rfl (jb_nar true) (jb_fit true) (Nat.le_of_ble_eq_true rfl) d_Mod_pack_224 (fun H locs hw => ?_)
            have hw : Lv _ _ _ _ _ (RMW mo am ti Q w g rb rt rp ro ca va st tr th ha (((16384 : Int32) ||| (((((jsr (lN (nUp T z)) (nI z)).toInt32) &&& (56 : Int32)) ||| ((nI z) >>> ((3 : Int32) &&& 31))) <<< ((8 : Int32) &&& 31))) ||| ((((jsr (lN (nDn B z)) (nI z)).toInt32) &&& (248 : Int32)) ||| ((nI z) &&& (7 : Int32)))) true rd to) _ _ _ := hw
            refine lv_aload_n hx hb d_Mod_pack_227 rfl (lv_at hl 7 rfl) ?_
            refine lv_lload hx hb d_Mod_pack_228 (lv_at hl 2 rfl) ?_
            refine lv_lload hx hb d_Mod_pack_230 (lv_at hl 3 rfl) ?_
            refine lv_lsub hx hb d_Mod_pack_232 ?_
            refine q_put (v := .long ((lN (nUp T z)) - (lN (nDn B z)))) S hw ly_Mod t_Mod t_Mod_ok n_Mod 0 rfl rfl 17 (by decide) tb_5_60 rfl rfl rfl rfl (Nat.le_of_ble_eq_true rfl) d_Mod_pack_233 (fun H locs hw => ?_)
            have hw : Lv _ _ _ _ _ (RMW mo am ti Q w g rb rt rp ro ca va st tr th ha (((16384 : Int32) ||| (((((jsr (lN (nUp T z)) (nI z)).toInt32) &&& (56 : Int32)) ||| ((nI z) >>> ((3 : Int32) &&& 31))) <<< ((8 : Int32) &&& 31))) ||| ((((jsr (lN (nDn B z)) (nI z)).toInt32) &&& (248 : Int32)) ||| ((nI z) &&& (7 : Int32)))) true ((lN (nUp T z)) - (lN (nDn B z))) to) _ _ _ := hw
            exact hw.rv S hr hlk d_Mod_pack_236 () (rfl) (trivial) (by unfold kEx kLen; rw [eLo, eHi, eBt, if_pos h209, if_pos h216]; rfl)
      · refine lv_iinc (k := 3) (v := (nI (z + 1))) (lv' := [(7, .int (nI (z + 1))), (12, .long (lN (nUp T z))), (10, .long (lN (nDn B z))), (8, .long (lN (2 ^ (z + 3)))), (5, .long (lN (T - B))), (0, .ref mo), (1, .long (lN B)), (3, .long (lN T))]) hx hb d_Mod_pack_120 hl rfl (iinc1 z) (by decide) rfl (fun ls hl => ?_)
        refine lv_lconst (v := 1) hx hb d_Mod_pack_123 (by decide) ?_
        refine lv_iload hx hb d_Mod_pack_124 (lv_at hl 0 rfl) ?_
        refine lv_iconst (v := 3) hx hb d_Mod_pack_126 (by decide) ?_
        refine lv_iadd hx hb d_Mod_pack_127 ?_
        refine q_topi (z := nI ((z + 1) + 3)) (nI_add (z + 1) 3) ?_
        refine lv_lshl (v := (jsl (1 : Int64) (nI ((z + 1) + 3)))) hx hb d_Mod_pack_128 rfl ?_
        refine q_topl (z := (lN (2 ^ ((z + 1) + 3)))) (by rw [show (1 : Int64) = lN 1 from rfl, wb_shl 1 (by omega), Nat.one_mul]) ?_
        refine lv_lstore (lv' := [(8, .long (lN (2 ^ ((z + 1) + 3)))), (7, .int (nI (z + 1))), (12, .long (lN (nUp T z))), (10, .long (lN (nDn B z))), (5, .long (lN (T - B))), (0, .ref mo), (1, .long (lN B)), (3, .long (lN T))]) hx hb d_Mod_pack_129 hl (by decide) rfl (fun ls hl => ?_)
        refine lv_lload_n hx hb d_Mod_pack_131 rfl (lv_at hl 6 rfl) ?_
        refine lv_lload hx hb d_Mod_pack_132 (lv_at hl 0 rfl) ?_
        refine lv_ldiv hx hb d_Mod_pack_134 (nz3 _ (by omega)) ?_
        refine lv_lload hx hb d_Mod_pack_135 (lv_at hl 0 rfl) ?_
        refine lv_lmul hx hb d_Mod_pack_137 ?_
        refine q_topl (z := (lN (nDn B (z + 1)))) (by have hp := p43 (e := (z + 1)) (by omega); rw [lN_div (by omega) (by omega), lN_mul]; rfl) ?_
        refine lv_lstore (lv' := [(10, .long (lN (nDn B (z + 1)))), (8, .long (lN (2 ^ ((z + 1) + 3)))), (7, .int (nI (z + 1))), (12, .long (lN (nUp T z))), (5, .long (lN (T - B))), (0, .ref mo), (1, .long (lN B)), (3, .long (lN T))]) hx hb d_Mod_pack_138 hl (by decide) rfl (fun ls hl => ?_)
        refine lv_lload_n hx hb d_Mod_pack_140 rfl (lv_at hl 7 rfl) ?_
        refine lv_lload hx hb d_Mod_pack_141 (lv_at hl 1 rfl) ?_
        refine lv_ladd hx hb d_Mod_pack_143 ?_
        refine lv_lconst (v := 1) hx hb d_Mod_pack_144 (by decide) ?_
        refine lv_lsub hx hb d_Mod_pack_145 ?_
        refine lv_lload hx hb d_Mod_pack_146 (lv_at hl 1 rfl) ?_
        refine lv_ldiv hx hb d_Mod_pack_148 (nz3 _ (by omega)) ?_
        refine lv_lload hx hb d_Mod_pack_149 (lv_at hl 1 rfl) ?_
        refine lv_lmul hx hb d_Mod_pack_151 ?_
        refine q_topl (z := (lN (nUp T (z + 1)))) (by have hp := p43 (e := (z + 1)) (by omega); rw [lN_add, show (1 : Int64) = lN 1 from rfl, lN_sub (by omega), lN_div (by omega) (by omega), lN_mul]; rfl) ?_
        refine lv_lstore (lv' := [(12, .long (lN (nUp T (z + 1)))), (10, .long (lN (nDn B (z + 1)))), (8, .long (lN (2 ^ ((z + 1) + 3)))), (7, .int (nI (z + 1))), (5, .long (lN (T - B))), (0, .ref mo), (1, .long (lN B)), (3, .long (lN T))]) hx hb d_Mod_pack_152 hl (by decide) rfl (fun ls hl => ?_)
        have hE : kE (lN B) (lN T) = nI (z + 1) := by unfold kE; rw [hIn, if_neg (by decide), hE0, kUp_n (by omega) (by omega), kDn_n (by omega) (by omega), pk_c hB hT (by omega), if_neg h117, nI_1]
        obtain ⟨eLo, eHi, eBt⟩ := pk_fin hB hT (by omega) hIn hE
        refine lv_lload hx hb d_Mod_pack_154 (lv_at hl 1 rfl) ?_
        refine lv_iload hx hb d_Mod_pack_156 (lv_at hl 3 rfl) ?_
        refine lv_lshr (v := (jsr (lN (nDn B (z + 1))) (nI (z + 1)))) hx hb d_Mod_pack_158 rfl ?_
        refine lv_l2i (v := ((jsr (lN (nDn B (z + 1))) (nI (z + 1))).toInt32)) hx hb d_Mod_pack_159 rfl ?_
        refine lv_sipush (v := 248) hx hb d_Mod_pack_160 (by decide) ?_
        refine lv_iand hx hb d_Mod_pack_163 ?_
        refine lv_iload hx hb d_Mod_pack_164 (lv_at hl 3 rfl) ?_
        refine lv_bipush (v := 7) hx hb d_Mod_pack_166 (by decide) ?_
        refine lv_iand hx hb d_Mod_pack_168 ?_
        refine lv_ior hx hb d_Mod_pack_169 ?_
        refine lv_istore (lv' := [(14, .int ((((jsr (lN (nDn B (z + 1))) (nI (z + 1))).toInt32) &&& (248 : Int32)) ||| ((nI (z + 1)) &&& (7 : Int32)))), (12, .long (lN (nUp T (z + 1)))), (10, .long (lN (nDn B (z + 1)))), (8, .long (lN (2 ^ ((z + 1) + 3)))), (7, .int (nI (z + 1))), (5, .long (lN (T - B))), (0, .ref mo), (1, .long (lN B)), (3, .long (lN T))]) hx hb d_Mod_pack_170 hl (by decide) rfl (fun ls hl => ?_)
        refine lv_lload hx hb d_Mod_pack_172 (lv_at hl 1 rfl) ?_
        refine lv_iload hx hb d_Mod_pack_174 (lv_at hl 4 rfl) ?_
        refine lv_lshr (v := (jsr (lN (nUp T (z + 1))) (nI (z + 1)))) hx hb d_Mod_pack_176 rfl ?_
        refine lv_l2i (v := ((jsr (lN (nUp T (z + 1))) (nI (z + 1))).toInt32)) hx hb d_Mod_pack_177 rfl ?_
        refine lv_bipush (v := 56) hx hb d_Mod_pack_178 (by decide) ?_
        refine lv_iand hx hb d_Mod_pack_180 ?_
        refine lv_iload hx hb d_Mod_pack_181 (lv_at hl 4 rfl) ?_
        refine lv_iconst (v := 3) hx hb d_Mod_pack_183 (by decide) ?_
        refine lv_ishr hx hb d_Mod_pack_184 ?_
        refine lv_ior hx hb d_Mod_pack_185 ?_
        refine lv_istore (lv' := [(15, .int ((((jsr (lN (nUp T (z + 1))) (nI (z + 1))).toInt32) &&& (56 : Int32)) ||| ((nI (z + 1)) >>> ((3 : Int32) &&& 31)))), (14, .int ((((jsr (lN (nDn B (z + 1))) (nI (z + 1))).toInt32) &&& (248 : Int32)) ||| ((nI (z + 1)) &&& (7 : Int32)))), (12, .long (lN (nUp T (z + 1)))), (10, .long (lN (nDn B (z + 1)))), (8, .long (lN (2 ^ ((z + 1) + 3)))), (7, .int (nI (z + 1))), (5, .long (lN (T - B))), (0, .ref mo), (1, .long (lN B)), (3, .long (lN T))]) hx hb d_Mod_pack_186 hl (by decide) rfl (fun ls hl => ?_)
        refine lv_aload_n hx hb d_Mod_pack_188 rfl (lv_at hl 7 rfl) ?_
        refine lv_sipush (v := 16384) hx hb d_Mod_pack_189 (by decide) ?_
        refine lv_iload hx hb d_Mod_pack_192 (lv_at hl 0 rfl) ?_
        refine lv_bipush (v := 8) hx hb d_Mod_pack_194 (by decide) ?_
        refine lv_ishl hx hb d_Mod_pack_196 ?_
        refine lv_ior hx hb d_Mod_pack_197 ?_
        refine lv_iload hx hb d_Mod_pack_198 (lv_at hl 1 rfl) ?_
        refine lv_ior hx hb d_Mod_pack_200 ?_
        refine q_put (v := .int (((16384 : Int32) ||| (((((jsr (lN (nUp T (z + 1))) (nI (z + 1))).toInt32) &&& (56 : Int32)) ||| ((nI (z + 1)) >>> ((3 : Int32) &&& 31))) <<< ((8 : Int32) &&& 31))) ||| ((((jsr (lN (nDn B (z + 1))) (nI (z + 1))).toInt32) &&& (248 : Int32)) ||| ((nI (z + 1)) &&& (7 : Int32))))) S hw ly_Mod t_Mod t_Mod_ok n_Mod 0 rfl rfl 15 (by decide) tb_5_58 rfl rfl rfl rfl (Nat.le_of_ble_eq_true rfl) d_Mod_pack_201 (fun H locs hw => ?_)
        have hw : Lv _ _ _ _ _ (RMW mo am ti Q w g rb rt rp ro ca va st tr th ha (((16384 : Int32) ||| (((((jsr (lN (nUp T (z + 1))) (nI (z + 1))).toInt32) &&& (56 : Int32)) ||| ((nI (z + 1)) >>> ((3 : Int32) &&& 31))) <<< ((8 : Int32) &&& 31))) ||| ((((jsr (lN (nDn B (z + 1))) (nI (z + 1))).toInt32) &&& (248 : Int32)) ||| ((nI (z + 1)) &&& (7 : Int32)))) xx rd to) _ _ _ := hw
        refine lv_aload_n hx hb d_Mod_pack_204 rfl (lv_at hl 7 rfl) ?_
        refine lv_lload hx hb d_Mod_pack_205 (lv_at hl 3 rfl) ?_
        refine lv_lload_n hx hb d_Mod_pack_207 rfl (lv_at hl 8 rfl) ?_
        refine q_lc_ne S d_Mod_pack_208 d_Mod_pack_209 rfl (fun h209 => ?_) (fun h209 => ?_)
        · refine lv_iconst (v := 0) hx hb d_Mod_pack_223 (by decide) ?_
          refine q_put (v := .int (jb false)) S hw ly_Mod t_Mod t_Mod_ok n_Mod 0 rfl rfl 16 (by decide) tb_5_59 rfl rfl (jb_nar false) (jb_fit false) (Nat.le_of_ble_eq_true rfl) d_Mod_pack_224 (fun H locs hw => ?_)
          have hw : Lv _ _ _ _ _ (RMW mo am ti Q w g rb rt rp ro ca va st tr th ha (((16384 : Int32) ||| (((((jsr (lN (nUp T (z + 1))) (nI (z + 1))).toInt32) &&& (56 : Int32)) ||| ((nI (z + 1)) >>> ((3 : Int32) &&& 31))) <<< ((8 : Int32) &&& 31))) ||| ((((jsr (lN (nDn B (z + 1))) (nI (z + 1))).toInt32) &&& (248 : Int32)) ||| ((nI (z + 1)) &&& (7 : Int32)))) false rd to) _ _ _ := hw
          refine lv_aload_n hx hb d_Mod_pack_227 rfl (lv_at hl 7 rfl) ?_
          refine lv_lload hx hb d_Mod_pack_228 (lv_at hl 2 rfl) ?_
          refine lv_lload hx hb d_Mod_pack_230 (lv_at hl 3 rfl) ?_
          refine lv_lsub hx hb d_Mod_pack_232 ?_
          refine q_put (v := .long ((lN (nUp T (z + 1))) - (lN (nDn B (z + 1))))) S hw ly_Mod t_Mod t_Mod_ok n_Mod 0 rfl rfl 17 (by decide) tb_5_60 rfl rfl rfl rfl (Nat.le_of_ble_eq_true rfl) d_Mod_pack_233 (fun H locs hw => ?_)
          have hw : Lv _ _ _ _ _ (RMW mo am ti Q w g rb rt rp ro ca va st tr th ha (((16384 : Int32) ||| (((((jsr (lN (nUp T (z + 1))) (nI (z + 1))).toInt32) &&& (56 : Int32)) ||| ((nI (z + 1)) >>> ((3 : Int32) &&& 31))) <<< ((8 : Int32) &&& 31))) ||| ((((jsr (lN (nDn B (z + 1))) (nI (z + 1))).toInt32) &&& (248 : Int32)) ||| ((nI (z + 1)) &&& (7 : Int32)))) false ((lN (nUp T (z + 1))) - (lN (nDn B (z + 1)))) to) _ _ _ := hw
          exact hw.rv S hr hlk d_Mod_pack_236 () (rfl) (trivial) (by unfold kEx kLen; rw [eLo, eHi, eBt, if_neg h209]; rfl)
        · refine lv_lload hx hb d_Mod_pack_212 (lv_at hl 2 rfl) ?_
          refine lv_lload_n hx hb d_Mod_pack_214 rfl (lv_at hl 9 rfl) ?_
          refine q_lc_ne S d_Mod_pack_215 d_Mod_pack_216 rfl (fun h216 => ?_) (fun h216 => ?_)
          · refine lv_iconst (v := 0) hx hb d_Mod_pack_223 (by decide) ?_
            refine q_put (v := .int (jb false)) S hw ly_Mod t_Mod t_Mod_ok n_Mod 0 rfl rfl 16 (by decide) tb_5_59 rfl rfl (jb_nar false) (jb_fit false) (Nat.le_of_ble_eq_true rfl) d_Mod_pack_224 (fun H locs hw => ?_)
            have hw : Lv _ _ _ _ _ (RMW mo am ti Q w g rb rt rp ro ca va st tr th ha (((16384 : Int32) ||| (((((jsr (lN (nUp T (z + 1))) (nI (z + 1))).toInt32) &&& (56 : Int32)) ||| ((nI (z + 1)) >>> ((3 : Int32) &&& 31))) <<< ((8 : Int32) &&& 31))) ||| ((((jsr (lN (nDn B (z + 1))) (nI (z + 1))).toInt32) &&& (248 : Int32)) ||| ((nI (z + 1)) &&& (7 : Int32)))) false rd to) _ _ _ := hw
            refine lv_aload_n hx hb d_Mod_pack_227 rfl (lv_at hl 7 rfl) ?_
            refine lv_lload hx hb d_Mod_pack_228 (lv_at hl 2 rfl) ?_
            refine lv_lload hx hb d_Mod_pack_230 (lv_at hl 3 rfl) ?_
            refine lv_lsub hx hb d_Mod_pack_232 ?_
            refine q_put (v := .long ((lN (nUp T (z + 1))) - (lN (nDn B (z + 1))))) S hw ly_Mod t_Mod t_Mod_ok n_Mod 0 rfl rfl 17 (by decide) tb_5_60 rfl rfl rfl rfl (Nat.le_of_ble_eq_true rfl) d_Mod_pack_233 (fun H locs hw => ?_)
            have hw : Lv _ _ _ _ _ (RMW mo am ti Q w g rb rt rp ro ca va st tr th ha (((16384 : Int32) ||| (((((jsr (lN (nUp T (z + 1))) (nI (z + 1))).toInt32) &&& (56 : Int32)) ||| ((nI (z + 1)) >>> ((3 : Int32) &&& 31))) <<< ((8 : Int32) &&& 31))) ||| ((((jsr (lN (nDn B (z + 1))) (nI (z + 1))).toInt32) &&& (248 : Int32)) ||| ((nI (z + 1)) &&& (7 : Int32)))) false ((lN (nUp T (z + 1))) - (lN (nDn B (z + 1)))) to) _ _ _ := hw
            exact hw.rv S hr hlk d_Mod_pack_236 () (rfl) (trivial) (by unfold kEx kLen; rw [eLo, eHi, eBt, if_pos h209, if_neg h216]; rfl)
          · refine lv_iconst (v := 1) hx hb d_Mod_pack_219 (by decide) ?_
            refine lv_goto hx hb d_Mod_pack_220 rfl ?_
            refine q_put (v := .int (jb true)) S hw ly_Mod t_Mod t_Mod_ok n_Mod 0 rfl rfl 16 (by decide) tb_5_59 rfl rfl (jb_nar true) (jb_fit true) (Nat.le_of_ble_eq_true rfl) d_Mod_pack_224 (fun H locs hw => ?_)
            have hw : Lv _ _ _ _ _ (RMW mo am ti Q w g rb rt rp ro ca va st tr th ha (((16384 : Int32) ||| (((((jsr (lN (nUp T (z + 1))) (nI (z + 1))).toInt32) &&& (56 : Int32)) ||| ((nI (z + 1)) >>> ((3 : Int32) &&& 31))) <<< ((8 : Int32) &&& 31))) ||| ((((jsr (lN (nDn B (z + 1))) (nI (z + 1))).toInt32) &&& (248 : Int32)) ||| ((nI (z + 1)) &&& (7 : Int32)))) true rd to) _ _ _ := hw
            refine lv_aload_n hx hb d_Mod_pack_227 rfl (lv_at hl 7 rfl) ?_
            refine lv_lload hx hb d_Mod_pack_228 (lv_at hl 2 rfl) ?_
            refine lv_lload hx hb d_Mod_pack_230 (lv_at hl 3 rfl) ?_
            refine lv_lsub hx hb d_Mod_pack_232 ?_
            refine q_put (v := .long ((lN (nUp T (z + 1))) - (lN (nDn B (z + 1))))) S hw ly_Mod t_Mod t_Mod_ok n_Mod 0 rfl rfl 17 (by decide) tb_5_60 rfl rfl rfl rfl (Nat.le_of_ble_eq_true rfl) d_Mod_pack_233 (fun H locs hw => ?_)
            have hw : Lv _ _ _ _ _ (RMW mo am ti Q w g rb rt rp ro ca va st tr th ha (((16384 : Int32) ||| (((((jsr (lN (nUp T (z + 1))) (nI (z + 1))).toInt32) &&& (56 : Int32)) ||| ((nI (z + 1)) >>> ((3 : Int32) &&& 31))) <<< ((8 : Int32) &&& 31))) ||| ((((jsr (lN (nDn B (z + 1))) (nI (z + 1))).toInt32) &&& (248 : Int32)) ||| ((nI (z + 1)) &&& (7 : Int32)))) true ((lN (nUp T (z + 1))) - (lN (nDn B (z + 1)))) to) _ _ _ := hw
            exact hw.rv S hr hlk d_Mod_pack_236 () (rfl) (trivial) (by unfold kEx kLen; rw [eLo, eHi, eBt, if_pos h209, if_pos h216]; rfl)
    · refine lv_lload hx hb d_Mod_pack_33 (lv_at hl 1 rfl) ?_
      refine lv_ldc2 (v := 63) hx hb hown (hts _ tb_5_128) d_Mod_pack_35 ?_
      refine q_lc_gt S d_Mod_pack_38 d_Mod_pack_39 rfl (fun h39 => ?_) (fun h39 => ?_)
      · have hIn : kIn (lN B) (lN T) = true := by unfold kIn; rw [hE0, h30, if_neg (by decide), lN_sub hB, if_neg (Int64.not_le.mpr h39)]
        refine lv_lconst (v := 1) hx hb d_Mod_pack_74 (by decide) ?_
        refine lv_iload hx hb d_Mod_pack_75 (lv_at hl 0 rfl) ?_
        refine lv_iconst (v := 3) hx hb d_Mod_pack_77 (by decide) ?_
        refine lv_iadd hx hb d_Mod_pack_78 ?_
        refine q_topi (z := nI (z + 3)) (nI_add z 3) ?_
        refine lv_lshl (v := (jsl (1 : Int64) (nI (z + 3)))) hx hb d_Mod_pack_79 rfl ?_
        refine q_topl (z := (lN (2 ^ (z + 3)))) (by rw [show (1 : Int64) = lN 1 from rfl, wb_shl 1 (by omega), Nat.one_mul]) ?_
        refine lv_lstore (lv' := [(8, .long (lN (2 ^ (z + 3)))), (7, .int (nI z)), (5, .long (lN (T - B))), (0, .ref mo), (1, .long (lN B)), (3, .long (lN T))]) hx hb d_Mod_pack_80 hl (by decide) rfl (fun ls hl => ?_)
        refine lv_lload_n hx hb d_Mod_pack_82 rfl (lv_at hl 4 rfl) ?_
        refine lv_lload hx hb d_Mod_pack_83 (lv_at hl 0 rfl) ?_
        refine lv_ldiv hx hb d_Mod_pack_85 (nz3 _ (by omega)) ?_
        refine lv_lload hx hb d_Mod_pack_86 (lv_at hl 0 rfl) ?_
        refine lv_lmul hx hb d_Mod_pack_88 ?_
        refine q_topl (z := (lN (nDn B z))) (by have hp := p43 (e := z) (by omega); rw [lN_div (by omega) (by omega), lN_mul]; rfl) ?_
        refine lv_lstore (lv' := [(10, .long (lN (nDn B z))), (8, .long (lN (2 ^ (z + 3)))), (7, .int (nI z)), (5, .long (lN (T - B))), (0, .ref mo), (1, .long (lN B)), (3, .long (lN T))]) hx hb d_Mod_pack_89 hl (by decide) rfl (fun ls hl => ?_)
        refine lv_lload_n hx hb d_Mod_pack_91 rfl (lv_at hl 6 rfl) ?_
        refine lv_lload hx hb d_Mod_pack_92 (lv_at hl 1 rfl) ?_
        refine lv_ladd hx hb d_Mod_pack_94 ?_
        refine lv_lconst (v := 1) hx hb d_Mod_pack_95 (by decide) ?_
        refine lv_lsub hx hb d_Mod_pack_96 ?_
        refine lv_lload hx hb d_Mod_pack_97 (lv_at hl 1 rfl) ?_
        refine lv_ldiv hx hb d_Mod_pack_99 (nz3 _ (by omega)) ?_
        refine lv_lload hx hb d_Mod_pack_100 (lv_at hl 1 rfl) ?_
        refine lv_lmul hx hb d_Mod_pack_102 ?_
        refine q_topl (z := (lN (nUp T z))) (by have hp := p43 (e := z) (by omega); rw [lN_add, show (1 : Int64) = lN 1 from rfl, lN_sub (by omega), lN_div (by omega) (by omega), lN_mul]; rfl) ?_
        refine lv_lstore (lv' := [(12, .long (lN (nUp T z))), (10, .long (lN (nDn B z))), (8, .long (lN (2 ^ (z + 3)))), (7, .int (nI z)), (5, .long (lN (T - B))), (0, .ref mo), (1, .long (lN B)), (3, .long (lN T))]) hx hb d_Mod_pack_103 hl (by decide) rfl (fun ls hl => ?_)
        refine lv_lload hx hb d_Mod_pack_105 (lv_at hl 0 rfl) ?_
        refine lv_lload hx hb d_Mod_pack_107 (lv_at hl 1 rfl) ?_
        refine lv_lsub hx hb d_Mod_pack_109 ?_
        refine lv_lload hx hb d_Mod_pack_110 (lv_at hl 2 rfl) ?_
        refine lv_ldiv hx hb d_Mod_pack_112 (nz3 _ (by omega)) ?_
        refine q_topl (z := (lN ((nUp T z - nDn B z) / 2 ^ (z + 3)))) (by have hp := p43 (e := z) (by omega); have l1 := nUp_le (x := T) (e := z); have l2 := nDn_le (x := B) (e := z); have l3 := nUp_ge (x := T) (e := z); rw [lN_sub (by omega), lN_div (by omega) (by omega)]) ?_
        refine lv_ldc2 (v := 16) hx hb hown (hts _ tb_5_129) d_Mod_pack_113 ?_
        refine q_lc_lt S d_Mod_pack_116 d_Mod_pack_117 rfl (fun h117 => ?_) (fun h117 => ?_)
        · have hE : kE (lN B) (lN T) = nI z := by unfold kE; rw [hIn, if_neg (by decide), hE0, kUp_n (by omega) (by omega), kDn_n (by omega) (by omega), pk_c hB hT (by omega), if_pos h117]
          obtain ⟨eLo, eHi, eBt⟩ := pk_fin hB hT (by omega) hIn hE
          refine lv_lload hx hb d_Mod_pack_154 (lv_at hl 1 rfl) ?_
          refine lv_iload hx hb d_Mod_pack_156 (lv_at hl 3 rfl) ?_
          refine lv_lshr (v := (jsr (lN (nDn B z)) (nI z))) hx hb d_Mod_pack_158 rfl ?_
          refine lv_l2i (v := ((jsr (lN (nDn B z)) (nI z)).toInt32)) hx hb d_Mod_pack_159 rfl ?_
          refine lv_sipush (v := 248) hx hb d_Mod_pack_160 (by decide) ?_
          refine lv_iand hx hb d_Mod_pack_163 ?_
          refine lv_iload hx hb d_Mod_pack_164 (lv_at hl 3 rfl) ?_
          refine lv_bipush (v := 7) hx hb d_Mod_pack_166 (by decide) ?_
          refine lv_iand hx hb d_Mod_pack_168 ?_
          refine lv_ior hx hb d_Mod_pack_169 ?_
          refine lv_istore (lv' := [(14, .int ((((jsr (lN (nDn B z)) (nI z)).toInt32) &&& (248 : Int32)) ||| ((nI z) &&& (7 : Int32)))), (12, .long (lN (nUp T z))), (10, .long (lN (nDn B z))), (8, .long (lN (2 ^ (z + 3)))), (7, .int (nI z)), (5, .long (lN (T - B))), (0, .ref mo), (1, .long (lN B)), (3, .long (lN T))]) hx hb d_Mod_pack_170 hl (by decide) rfl (fun ls hl => ?_)
          refine lv_lload hx hb d_Mod_pack_172 (lv_at hl 1 rfl) ?_
          refine lv_iload hx hb d_Mod_pack_174 (lv_at hl 4 rfl) ?_
          refine lv_lshr (v := (jsr (lN (nUp T z)) (nI z))) hx hb d_Mod_pack_176 rfl ?_
          refine lv_l2i (v := ((jsr (lN (nUp T z)) (nI z)).toInt32)) hx hb d_Mod_pack_177 rfl ?_
          refine lv_bipush (v := 56) hx hb d_Mod_pack_178 (by decide) ?_
          refine lv_iand hx hb d_Mod_pack_180 ?_
          refine lv_iload hx hb d_Mod_pack_181 (lv_at hl 4 rfl) ?_
          refine lv_iconst (v := 3) hx hb d_Mod_pack_183 (by decide) ?_
          refine lv_ishr hx hb d_Mod_pack_184 ?_
          refine lv_ior hx hb d_Mod_pack_185 ?_
          refine lv_istore (lv' := [(15, .int ((((jsr (lN (nUp T z)) (nI z)).toInt32) &&& (56 : Int32)) ||| ((nI z) >>> ((3 : Int32) &&& 31)))), (14, .int ((((jsr (lN (nDn B z)) (nI z)).toInt32) &&& (248 : Int32)) ||| ((nI z) &&& (7 : Int32)))), (12, .long (lN (nUp T z))), (10, .long (lN (nDn B z))), (8, .long (lN (2 ^ (z + 3)))), (7, .int (nI z)), (5, .long (lN (T - B))), (0, .ref mo), (1, .long (lN B)), (3, .long (lN T))]) hx hb d_Mod_pack_186 hl (by decide) rfl (fun ls hl => ?_)
          refine lv_aload_n hx hb d_Mod_pack_188 rfl (lv_at hl 7 rfl) ?_
          refine lv_sipush (v := 16384) hx hb d_Mod_pack_189 (by decide) ?_
          refine lv_iload hx hb d_Mod_pack_192 (lv_at hl 0 rfl) ?_
          refine lv_bipush (v := 8) hx hb d_Mod_pack_194 (by decide) ?_
          refine lv_ishl hx hb d_Mod_pack_196 ?_
          refine lv_ior hx hb d_Mod_pack_197 ?_
          refine lv_iload hx hb d_Mod_pack_198 (lv_at hl 1 rfl) ?_
          refine lv_ior hx hb d_Mod_pack_200 ?_
          refine q_put (v := .int (((16384 : Int32) ||| (((((jsr (lN (nUp T z)) (nI z)).toInt32) &&& (56 : Int32)) ||| ((nI z) >>> ((3 : Int32) &&& 31))) <<< ((8 : Int32) &&& 31))) ||| ((((jsr (lN (nDn B z)) (nI z)).toInt32) &&& (248 : Int32)) ||| ((nI z) &&& (7 : Int32))))) S hw ly_Mod t_Mod t_Mod_ok n_Mod 0 rfl rfl 15 (by decide) tb_5_58 rfl rfl rfl rfl (Nat.le_of_ble_eq_true rfl) d_Mod_pack_201 (fun H locs hw => ?_)
          have hw : Lv _ _ _ _ _ (RMW mo am ti Q w g rb rt rp ro ca va st tr th ha (((16384 : Int32) ||| (((((jsr (lN (nUp T z)) (nI z)).toInt32) &&& (56 : Int32)) ||| ((nI z) >>> ((3 : Int32) &&& 31))) <<< ((8 : Int32) &&& 31))) ||| ((((jsr (lN (nDn B z)) (nI z)).toInt32) &&& (248 : Int32)) ||| ((nI z) &&& (7 : Int32)))) xx rd to) _ _ _ := hw
          refine lv_aload_n hx hb d_Mod_pack_204 rfl (lv_at hl 7 rfl) ?_
          refine lv_lload hx hb d_Mod_pack_205 (lv_at hl 3 rfl) ?_
          refine lv_lload_n hx hb d_Mod_pack_207 rfl (lv_at hl 8 rfl) ?_
          refine q_lc_ne S d_Mod_pack_208 d_Mod_pack_209 rfl (fun h209 => ?_) (fun h209 => ?_)
          · refine lv_iconst (v := 0) hx hb d_Mod_pack_223 (by decide) ?_
            refine q_put (v := .int (jb false)) S hw ly_Mod t_Mod t_Mod_ok n_Mod 0 rfl rfl 16 (by decide) tb_5_59 rfl rfl (jb_nar false) (jb_fit false) (Nat.le_of_ble_eq_true rfl) d_Mod_pack_224 (fun H locs hw => ?_)
            have hw : Lv _ _ _ _ _ (RMW mo am ti Q w g rb rt rp ro ca va st tr th ha (((16384 : Int32) ||| (((((jsr (lN (nUp T z)) (nI z)).toInt32) &&& (56 : Int32)) ||| ((nI z) >>> ((3 : Int32) &&& 31))) <<< ((8 : Int32) &&& 31))) ||| ((((jsr (lN (nDn B z)) (nI z)).toInt32) &&& (248 : Int32)) ||| ((nI z) &&& (7 : Int32)))) false rd to) _ _ _ := hw
            refine lv_aload_n hx hb d_Mod_pack_227 rfl (lv_at hl 7 rfl) ?_
            refine lv_lload hx hb d_Mod_pack_228 (lv_at hl 2 rfl) ?_
            refine lv_lload hx hb d_Mod_pack_230 (lv_at hl 3 rfl) ?_
            refine lv_lsub hx hb d_Mod_pack_232 ?_
            refine q_put (v := .long ((lN (nUp T z)) - (lN (nDn B z)))) S hw ly_Mod t_Mod t_Mod_ok n_Mod 0 rfl rfl 17 (by decide) tb_5_60 rfl rfl rfl rfl (Nat.le_of_ble_eq_true rfl) d_Mod_pack_233 (fun H locs hw => ?_)
            have hw : Lv _ _ _ _ _ (RMW mo am ti Q w g rb rt rp ro ca va st tr th ha (((16384 : Int32) ||| (((((jsr (lN (nUp T z)) (nI z)).toInt32) &&& (56 : Int32)) ||| ((nI z) >>> ((3 : Int32) &&& 31))) <<< ((8 : Int32) &&& 31))) ||| ((((jsr (lN (nDn B z)) (nI z)).toInt32) &&& (248 : Int32)) ||| ((nI z) &&& (7 : Int32)))) false ((lN (nUp T z)) - (lN (nDn B z))) to) _ _ _ := hw
            exact hw.rv S hr hlk d_Mod_pack_236 () (rfl) (trivial) (by unfold kEx kLen; rw [eLo, eHi, eBt, if_neg h209]; rfl)
          · refine lv_lload hx hb d_Mod_pack_212 (lv_at hl 2 rfl) ?_
            refine lv_lload_n hx hb d_Mod_pack_214 rfl (lv_at hl 9 rfl) ?_
            refine q_lc_ne S d_Mod_pack_215 d_Mod_pack_216 rfl (fun h216 => ?_) (fun h216 => ?_)
            · refine lv_iconst (v := 0) hx hb d_Mod_pack_223 (by decide) ?_
              refine q_put (v := .int (jb false)) S hw ly_Mod t_Mod t_Mod_ok n_Mod 0 rfl rfl 16 (by decide) tb_5_59 rfl rfl (jb_nar false) (jb_fit false) (Nat.le_of_ble_eq_true rfl) d_Mod_pack_224 (fun H locs hw => ?_)
              have hw : Lv _ _ _ _ _ (RMW mo am ti Q w g rb rt rp ro ca va st tr th ha (((16384 : Int32) ||| (((((jsr (lN (nUp T z)) (nI z)).toInt32) &&& (56 : Int32)) ||| ((nI z) >>> ((3 : Int32) &&& 31))) <<< ((8 : Int32) &&& 31))) ||| ((((jsr (lN (nDn B z)) (nI z)).toInt32) &&& (248 : Int32)) ||| ((nI z) &&& (7 : Int32)))) false rd to) _ _ _ := hw
              refine lv_aload_n hx hb d_Mod_pack_227 rfl (lv_at hl 7 rfl) ?_
              refine lv_lload hx hb d_Mod_pack_228 (lv_at hl 2 rfl) ?_
              refine lv_lload hx hb d_Mod_pack_230 (lv_at hl 3 rfl) ?_
              refine lv_lsub hx hb d_Mod_pack_232 ?_
              refine q_put (v := .long ((lN (nUp T z)) - (lN (nDn B z)))) S hw ly_Mod t_Mod t_Mod_ok n_Mod 0 rfl rfl 17 (by decide) tb_5_60 rfl rfl rfl rfl (Nat.le_of_ble_eq_true rfl) d_Mod_pack_233 (fun H locs hw => ?_)
              have hw : Lv _ _ _ _ _ (RMW mo am ti Q w g rb rt rp ro ca va st tr th ha (((16384 : Int32) ||| (((((jsr (lN (nUp T z)) (nI z)).toInt32) &&& (56 : Int32)) ||| ((nI z) >>> ((3 : Int32) &&& 31))) <<< ((8 : Int32) &&& 31))) ||| ((((jsr (lN (nDn B z)) (nI z)).toInt32) &&& (248 : Int32)) ||| ((nI z) &&& (7 : Int32)))) false ((lN (nUp T z)) - (lN (nDn B z))) to) _ _ _ := hw
              exact hw.rv S hr hlk d_Mod_pack_236 () (rfl) (trivial) (by unfold kEx kLen; rw [eLo, eHi, eBt, if_pos h209, if_neg h216]; rfl)
            · refine lv_iconst (v := 1) hx hb d_Mod_pack_219 (by decide) ?_
              refine lv_goto hx hb d_Mod_pack_220 rfl ?_
              refine q_put (v := .int (jb true)) S hw ly_Mod t_Mod t_Mod_ok n_Mod 0 rfl rfl 16 (by decide) tb_5_59 rfl rfl (jb_nar true) (jb_fit true) (Nat.le_of_ble_eq_true rfl) d_Mod_pack_224 (fun H locs hw => ?_)
              have hw : Lv _ _ _ _ _ (RMW mo am ti Q w g rb rt rp ro ca va st tr th ha (((16384 : Int32) ||| (((((jsr (lN (nUp T z)) (nI z)).toInt32) &&& (56 : Int32)) ||| ((nI z) >>> ((3 : Int32) &&& 31))) <<< ((8 : Int32) &&& 31))) ||| ((((jsr (lN (nDn B z)) (nI z)).toInt32) &&& (248 : Int32)) ||| ((nI z) &&& (7 : Int32)))) true rd to) _ _ _ := hw
              refine lv_aload_n hx hb d_Mod_pack_227 rfl (lv_at hl 7 rfl) ?_
              refine lv_lload hx hb d_Mod_pack_228 (lv_at hl 2 rfl) ?_
              refine lv_lload hx hb d_Mod_pack_230 (lv_at hl 3 rfl) ?_
              refine lv_lsub hx hb d_Mod_pack_232 ?_
              refine q_put (v := .long ((lN (nUp T z)) - (lN (nDn B z)))) S hw ly_Mod t_Mod t_Mod_ok n_Mod 0 rfl rfl 17 (by decide) tb_5_60 rfl rfl rfl rfl (Nat.le_of_ble_eq_true rfl) d_Mod_pack_233 (fun H locs hw => ?_)
              have hw : Lv _ _ _ _ _ (RMW mo am ti Q w g rb rt rp ro ca va st tr th ha (((16384 : Int32) ||| (((((jsr (lN (nUp T z)) (nI z)).toInt32) &&& (56 : Int32)) ||| ((nI z) >>> ((3 : Int32) &&& 31))) <<< ((8 : Int32) &&& 31))) ||| ((((jsr (lN (nDn B z)) (nI z)).toInt32) &&& (248 : Int32)) ||| ((nI z) &&& (7 : Int32)))) true ((lN (nUp T z)) - (lN (nDn B z))) to) _ _ _ := hw
              exact hw.rv S hr hlk d_Mod_pack_236 () (rfl) (trivial) (by unfold kEx kLen; rw [eLo, eHi, eBt, if_pos h209, if_pos h216]; rfl)
        · refine lv_iinc (k := 3) (v := (nI (z + 1))) (lv' := [(7, .int (nI (z + 1))), (12, .long (lN (nUp T z))), (10, .long (lN (nDn B z))), (8, .long (lN (2 ^ (z + 3)))), (5, .long (lN (T - B))), (0, .ref mo), (1, .long (lN B)), (3, .long (lN T))]) hx hb d_Mod_pack_120 hl rfl (iinc1 z) (by decide) rfl (fun ls hl => ?_)
          refine lv_lconst (v := 1) hx hb d_Mod_pack_123 (by decide) ?_
          refine lv_iload hx hb d_Mod_pack_124 (lv_at hl 0 rfl) ?_
          refine lv_iconst (v := 3) hx hb d_Mod_pack_126 (by decide) ?_
          refine lv_iadd hx hb d_Mod_pack_127 ?_
          refine q_topi (z := nI ((z + 1) + 3)) (nI_add (z + 1) 3) ?_
          refine lv_lshl (v := (jsl (1 : Int64) (nI ((z + 1) + 3)))) hx hb d_Mod_pack_128 rfl ?_
          refine q_topl (z := (lN (2 ^ ((z + 1) + 3)))) (by rw [show (1 : Int64) = lN 1 from rfl, wb_shl 1 (by omega), Nat.one_mul]) ?_
          refine lv_lstore (lv' := [(8, .long (lN (2 ^ ((z + 1) + 3)))), (7, .int (nI (z + 1))), (12, .long (lN (nUp T z))), (10, .long (lN (nDn B z))), (5, .long (lN (T - B))), (0, .ref mo), (1, .long (lN B)), (3, .long (lN T))]) hx hb d_Mod_pack_129 hl (by decide) rfl (fun ls hl => ?_)
          refine lv_lload_n hx hb d_Mod_pack_131 rfl (lv_at hl 6 rfl) ?_
          refine lv_lload hx hb d_Mod_pack_132 (lv_at hl 0 rfl) ?_
          refine lv_ldiv hx hb d_Mod_pack_134 (nz3 _ (by omega)) ?_
          refine lv_lload hx hb d_Mod_pack_135 (lv_at hl 0 rfl) ?_
          refine lv_lmul hx hb d_Mod_pack_137 ?_
          refine q_topl (z := (lN (nDn B (z + 1)))) (by have hp := p43 (e := (z + 1)) (by omega); rw [lN_div (by omega) (by omega), lN_mul]; rfl) ?_
          refine lv_lstore (lv' := [(10, .long (lN (nDn B (z + 1)))), (8, .long (lN (2 ^ ((z + 1) + 3)))), (7, .int (nI (z + 1))), (12, .long (lN (nUp T z))), (5, .long (lN (T - B))), (0, .ref mo), (1, .long (lN B)), (3, .long (lN T))]) hx hb d_Mod_pack_138 hl (by decide) rfl (fun ls hl => ?_)
          refine lv_lload_n hx hb d_Mod_pack_140 rfl (lv_at hl 7 rfl) ?_
          refine lv_lload hx hb d_Mod_pack_141 (lv_at hl 1 rfl) ?_
          refine lv_ladd hx hb d_Mod_pack_143 ?_
          refine lv_lconst (v := 1) hx hb d_Mod_pack_144 (by decide) ?_
          refine lv_lsub hx hb d_Mod_pack_145 ?_
          refine lv_lload hx hb d_Mod_pack_146 (lv_at hl 1 rfl) ?_
          refine lv_ldiv hx hb d_Mod_pack_148 (nz3 _ (by omega)) ?_
          refine lv_lload hx hb d_Mod_pack_149 (lv_at hl 1 rfl) ?_
          refine lv_lmul hx hb d_Mod_pack_151 ?_
          refine q_topl (z := (lN (nUp T (z + 1)))) (by have hp := p43 (e := (z + 1)) (by omega); rw [lN_add, show (1 : Int64) = lN 1 from rfl, lN_sub (by omega), lN_div (by omega) (by omega), lN_mul]; rfl) ?_
          refine lv_lstore (lv' := [(12, .long (lN (nUp T (z + 1)))), (10, .long (lN (nDn B (z + 1)))), (8, .long (lN (2 ^ ((z + 1) + 3)))), (7, .int (nI (z + 1))), (5, .long (lN (T - B))), (0, .ref mo), (1, .long (lN B)), (3, .long (lN T))]) hx hb d_Mod_pack_152 hl (by decide) rfl (fun ls hl => ?_)
          have hE : kE (lN B) (lN T) = nI (z + 1) := by unfold kE; rw [hIn, if_neg (by decide), hE0, kUp_n (by omega) (by omega), kDn_n (by omega) (by omega), pk_c hB hT (by omega), if_neg h117, nI_1]
          obtain ⟨eLo, eHi, eBt⟩ := pk_fin hB hT (by omega) hIn hE
          refine lv_lload hx hb d_Mod_pack_154 (lv_at hl 1 rfl) ?_
          refine lv_iload hx hb d_Mod_pack_156 (lv_at hl 3 rfl) ?_
          refine lv_lshr (v := (jsr (lN (nDn B (z + 1))) (nI (z + 1)))) hx hb d_Mod_pack_158 rfl ?_
          refine lv_l2i (v := ((jsr (lN (nDn B (z + 1))) (nI (z + 1))).toInt32)) hx hb d_Mod_pack_159 rfl ?_
          refine lv_sipush (v := 248) hx hb d_Mod_pack_160 (by decide) ?_
          refine lv_iand hx hb d_Mod_pack_163 ?_
          refine lv_iload hx hb d_Mod_pack_164 (lv_at hl 3 rfl) ?_
          refine lv_bipush (v := 7) hx hb d_Mod_pack_166 (by decide) ?_
          refine lv_iand hx hb d_Mod_pack_168 ?_
          refine lv_ior hx hb d_Mod_pack_169 ?_
          refine lv_istore (lv' := [(14, .int ((((jsr (lN (nDn B (z + 1))) (nI (z + 1))).toInt32) &&& (248 : Int32)) ||| ((nI (z + 1)) &&& (7 : Int32)))), (12, .long (lN (nUp T (z + 1)))), (10, .long (lN (nDn B (z + 1)))), (8, .long (lN (2 ^ ((z + 1) + 3)))), (7, .int (nI (z + 1))), (5, .long (lN (T - B))), (0, .ref mo), (1, .long (lN B)), (3, .long (lN T))]) hx hb d_Mod_pack_170 hl (by decide) rfl (fun ls hl => ?_)
          refine lv_lload hx hb d_Mod_pack_172 (lv_at hl 1 rfl) ?_
          refine lv_iload hx hb d_Mod_pack_174 (lv_at hl 4 rfl) ?_
          refine lv_lshr (v := (jsr (lN (nUp T (z + 1))) (nI (z + 1)))) hx hb d_Mod_pack_176 rfl ?_
          refine lv_l2i (v := ((jsr (lN (nUp T (z + 1))) (nI (z + 1))).toInt32)) hx hb d_Mod_pack_177 rfl ?_
          refine lv_bipush (v := 56) hx hb d_Mod_pack_178 (by decide) ?_
          refine lv_iand hx hb d_Mod_pack_180 ?_
          refine lv_iload hx hb d_Mod_pack_181 (lv_at hl 4 rfl) ?_
          refine lv_iconst (v := 3) hx hb d_Mod_pack_183 (by decide) ?_
          refine lv_ishr hx hb d_Mod_pack_184 ?_
          refine lv_ior hx hb d_Mod_pack_185 ?_
          refine lv_istore (lv' := [(15, .int ((((jsr (lN (nUp T (z + 1))) (nI (z + 1))).toInt32) &&& (56 : Int32)) ||| ((nI (z + 1)) >>> ((3 : Int32) &&& 31)))), (14, .int ((((jsr (lN (nDn B (z + 1))) (nI (z + 1))).toInt32) &&& (248 : Int32)) ||| ((nI (z + 1)) &&& (7 : Int32)))), (12, .long (lN (nUp T (z + 1)))), (10, .long (lN (nDn B (z + 1)))), (8, .long (lN (2 ^ ((z + 1) + 3)))), (7, .int (nI (z + 1))), (5, .long (lN (T - B))), (0, .ref mo), (1, .long (lN B)), (3, .long (lN T))]) hx hb d_Mod_pack_186 hl (by decide) rfl (fun ls hl => ?_)
          refine lv_aload_n hx hb d_Mod_pack_188 rfl (lv_at hl 7 rfl) ?_
          refine lv_sipush (v := 16384) hx hb d_Mod_pack_189 (by decide) ?_
          refine lv_iload hx hb d_Mod_pack_192 (lv_at hl 0 rfl) ?_
          refine lv_bipush (v := 8) hx hb d_Mod_pack_194 (by decide) ?_
          refine lv_ishl hx hb d_Mod_pack_196 ?_
          refine lv_ior hx hb d_Mod_pack_197 ?_
          refine lv_iload hx hb d_Mod_pack_198 (lv_at hl 1 rfl) ?_
          refine lv_ior hx hb d_Mod_pack_200 ?_
          refine q_put (v := .int (((16384 : Int32) ||| (((((jsr (lN (nUp T (z + 1))) (nI (z + 1))).toInt32) &&& (56 : Int32)) ||| ((nI (z + 1)) >>> ((3 : Int32) &&& 31))) <<< ((8 : Int32) &&& 31))) ||| ((((jsr (lN (nDn B (z + 1))) (nI (z + 1))).toInt32) &&& (248 : Int32)) ||| ((nI (z + 1)) &&& (7 : Int32))))) S hw ly_Mod t_Mod t_Mod_ok n_Mod 0 rfl rfl 15 (by decide) tb_5_58 rfl rfl rfl rfl (Nat.le_of_ble_eq_true rfl) d_Mod_pack_201 (fun H locs hw => ?_)
          have hw : Lv _ _ _ _ _ (RMW mo am ti Q w g rb rt rp ro ca va st tr th ha (((16384 : Int32) ||| (((((jsr (lN (nUp T (z + 1))) (nI (z + 1))).toInt32) &&& (56 : Int32)) ||| ((nI (z + 1)) >>> ((3 : Int32) &&& 31))) <<< ((8 : Int32) &&& 31))) ||| ((((jsr (lN (nDn B (z + 1))) (nI (z + 1))).toInt32) &&& (248 : Int32)) ||| ((nI (z + 1)) &&& (7 : Int32)))) xx rd to) _ _ _ := hw
          refine lv_aload_n hx hb d_Mod_pack_204 rfl (lv_at hl 7 rfl) ?_
          refine lv_lload hx hb d_Mod_pack_205 (lv_at hl 3 rfl) ?_
          refine lv_lload_n hx hb d_Mod_pack_207 rfl (lv_at hl 8 rfl) ?_
          refine q_lc_ne S d_Mod_pack_208 d_Mod_pack_209 rfl (fun h209 => ?_) (fun h209 => ?_)
          · refine lv_iconst (v := 0) hx hb d_Mod_pack_223 (by decide) ?_
            refine q_put (v := .int (jb false)) S hw ly_Mod t_Mod t_Mod_ok n_Mod 0 rfl rfl 16 (by decide) tb_5_59 rfl rfl (jb_nar false) (jb_fit false) (Nat.le_of_ble_eq_true rfl) d_Mod_pack_224 (fun H locs hw => ?_)
            have hw : Lv _ _ _ _ _ (RMW mo am ti Q w g rb rt rp ro ca va st tr th ha (((16384 : Int32) ||| (((((jsr (lN (nUp T (z + 1))) (nI (z + 1))).toInt32) &&& (56 : Int32)) ||| ((nI (z + 1)) >>> ((3 : Int32) &&& 31))) <<< ((8 : Int32) &&& 31))) ||| ((((jsr (lN (nDn B (z + 1))) (nI (z + 1))).toInt32) &&& (248 : Int32)) ||| ((nI (z + 1)) &&& (7 : Int32)))) false rd to) _ _ _ := hw
            refine lv_aload_n hx hb d_Mod_pack_227 rfl (lv_at hl 7 rfl) ?_
            refine lv_lload hx hb d_Mod_pack_228 (lv_at hl 2 rfl) ?_
            refine lv_lload hx hb d_Mod_pack_230 (lv_at hl 3 rfl) ?_
            refine lv_lsub hx hb d_Mod_pack_232 ?_
            refine q_put (v := .long ((lN (nUp T (z + 1))) - (lN (nDn B (z + 1))))) S hw ly_Mod t_Mod t_Mod_ok n_Mod 0 rfl rfl 17 (by decide) tb_5_60 rfl rfl rfl rfl (Nat.le_of_ble_eq_true rfl) d_Mod_pack_233 (fun H locs hw => ?_)
            have hw : Lv _ _ _ _ _ (RMW mo am ti Q w g rb rt rp ro ca va st tr th ha (((16384 : Int32) ||| (((((jsr (lN (nUp T (z + 1))) (nI (z + 1))).toInt32) &&& (56 : Int32)) ||| ((nI (z + 1)) >>> ((3 : Int32) &&& 31))) <<< ((8 : Int32) &&& 31))) ||| ((((jsr (lN (nDn B (z + 1))) (nI (z + 1))).toInt32) &&& (248 : Int32)) ||| ((nI (z + 1)) &&& (7 : Int32)))) false ((lN (nUp T (z + 1))) - (lN (nDn B (z + 1)))) to) _ _ _ := hw
            exact hw.rv S hr hlk d_Mod_pack_236 () (rfl) (trivial) (by unfold kEx kLen; rw [eLo, eHi, eBt, if_neg h209]; rfl)
          · refine lv_lload hx hb d_Mod_pack_212 (lv_at hl 2 rfl) ?_
            refine lv_lload_n hx hb d_Mod_pack_214 rfl (lv_at hl 9 rfl) ?_
            refine q_lc_ne S d_Mod_pack_215 d_Mod_pack_216 rfl (fun h216 => ?_) (fun h216 => ?_)
            · refine lv_iconst (v := 0) hx hb d_Mod_pack_223 (by decide) ?_
              refine q_put (v := .int (jb false)) S hw ly_Mod t_Mod t_Mod_ok n_Mod 0 rfl rfl 16 (by decide) tb_5_59 rfl rfl (jb_nar false) (jb_fit false) (Nat.le_of_ble_eq_true rfl) d_Mod_pack_224 (fun H locs hw => ?_)
              have hw : Lv _ _ _ _ _ (RMW mo am ti Q w g rb rt rp ro ca va st tr th ha (((16384 : Int32) ||| (((((jsr (lN (nUp T (z + 1))) (nI (z + 1))).toInt32) &&& (56 : Int32)) ||| ((nI (z + 1)) >>> ((3 : Int32) &&& 31))) <<< ((8 : Int32) &&& 31))) ||| ((((jsr (lN (nDn B (z + 1))) (nI (z + 1))).toInt32) &&& (248 : Int32)) ||| ((nI (z + 1)) &&& (7 : Int32)))) false rd to) _ _ _ := hw
              refine lv_aload_n hx hb d_Mod_pack_227 rfl (lv_at hl 7 rfl) ?_
              refine lv_lload hx hb d_Mod_pack_228 (lv_at hl 2 rfl) ?_
              refine lv_lload hx hb d_Mod_pack_230 (lv_at hl 3 rfl) ?_
              refine lv_lsub hx hb d_Mod_pack_232 ?_
              refine q_put (v := .long ((lN (nUp T (z + 1))) - (lN (nDn B (z + 1))))) S hw ly_Mod t_Mod t_Mod_ok n_Mod 0 rfl rfl 17 (by decide) tb_5_60 rfl rfl rfl rfl (Nat.le_of_ble_eq_true rfl) d_Mod_pack_233 (fun H locs hw => ?_)
              have hw : Lv _ _ _ _ _ (RMW mo am ti Q w g rb rt rp ro ca va st tr th ha (((16384 : Int32) ||| (((((jsr (lN (nUp T (z + 1))) (nI (z + 1))).toInt32) &&& (56 : Int32)) ||| ((nI (z + 1)) >>> ((3 : Int32) &&& 31))) <<< ((8 : Int32) &&& 31))) ||| ((((jsr (lN (nDn B (z + 1))) (nI (z + 1))).toInt32) &&& (248 : Int32)) ||| ((nI (z + 1)) &&& (7 : Int32)))) false ((lN (nUp T (z + 1))) - (lN (nDn B (z + 1)))) to) _ _ _ := hw
              exact hw.rv S hr hlk d_Mod_pack_236 () (rfl) (trivial) (by unfold kEx kLen; rw [eLo, eHi, eBt, if_pos h209, if_neg h216]; rfl)
            · refine lv_iconst (v := 1) hx hb d_Mod_pack_219 (by decide) ?_
              refine lv_goto hx hb d_Mod_pack_220 rfl ?_
              refine q_put (v := .int (jb true)) S hw ly_Mod t_Mod t_Mod_ok n_Mod 0 rfl rfl 16 (by decide) tb_5_59 rfl rfl (jb_nar true) (jb_fit true) (Nat.le_of_ble_eq_true rfl) d_Mod_pack_224 (fun H locs hw => ?_)
              have hw : Lv _ _ _ _ _ (RMW mo am ti Q w g rb rt rp ro ca va st tr th ha (((16384 : Int32) ||| (((((jsr (lN (nUp T (z + 1))) (nI (z + 1))).toInt32) &&& (56 : Int32)) ||| ((nI (z + 1)) >>> ((3 : Int32) &&& 31))) <<< ((8 : Int32) &&& 31))) ||| ((((jsr (lN (nDn B (z + 1))) (nI (z + 1))).toInt32) &&& (248 : Int32)) ||| ((nI (z + 1)) &&& (7 : Int32)))) true rd to) _ _ _ := hw
              refine lv_aload_n hx hb d_Mod_pack_227 rfl (lv_at hl 7 rfl) ?_
              refine lv_lload hx hb d_Mod_pack_228 (lv_at hl 2 rfl) ?_
              refine lv_lload hx hb d_Mod_pack_230 (lv_at hl 3 rfl) ?_
              refine lv_lsub hx hb d_Mod_pack_232 ?_
              refine q_put (v := .long ((lN (nUp T (z + 1))) - (lN (nDn B (z + 1))))) S hw ly_Mod t_Mod t_Mod_ok n_Mod 0 rfl rfl 17 (by decide) tb_5_60 rfl rfl rfl rfl (Nat.le_of_ble_eq_true rfl) d_Mod_pack_233 (fun H locs hw => ?_)
              have hw : Lv _ _ _ _ _ (RMW mo am ti Q w g rb rt rp ro ca va st tr th ha (((16384 : Int32) ||| (((((jsr (lN (nUp T (z + 1))) (nI (z + 1))).toInt32) &&& (56 : Int32)) ||| ((nI (z + 1)) >>> ((3 : Int32) &&& 31))) <<< ((8 : Int32) &&& 31))) ||| ((((jsr (lN (nDn B (z + 1))) (nI (z + 1))).toInt32) &&& (248 : Int32)) ||| ((nI (z + 1)) &&& (7 : Int32)))) true ((lN (nUp T (z + 1))) - (lN (nDn B (z + 1)))) to) _ _ _ := hw
              exact hw.rv S hr hlk d_Mod_pack_236 () (rfl) (trivial) (by unfold kEx kLen; rw [eLo, eHi, eBt, if_pos h209, if_pos h216]; rfl)
      · refine lv_aload_n hx hb d_Mod_pack_42 rfl (lv_at hl 2 rfl) ?_
        refine lv_lload_n hx hb d_Mod_pack_43 rfl (lv_at hl 4 rfl) ?_
        refine lv_ldc2 (v := 63) hx hb hown (hts _ tb_5_128) d_Mod_pack_44 ?_
        refine lv_land hx hb d_Mod_pack_47 ?_
        refine lv_l2i (v := (((lN T) &&& (63 : Int64)).toInt32)) hx hb d_Mod_pack_48 rfl ?_
        refine lv_bipush (v := 8) hx hb d_Mod_pack_49 (by decide) ?_
        refine lv_ishl hx hb d_Mod_pack_51 ?_
        refine lv_lload_n hx hb d_Mod_pack_52 rfl (lv_at hl 3 rfl) ?_
        refine lv_l2i (v := ((lN B).toInt32)) hx hb d_Mod_pack_53 rfl ?_
        refine lv_sipush (v := 255) hx hb d_Mod_pack_54 (by decide) ?_
        refine lv_iand hx hb d_Mod_pack_57 ?_
        refine lv_ior hx hb d_Mod_pack_58 ?_
        refine q_put (v := .int (((((lN T) &&& (63 : Int64)).toInt32) <<< ((8 : Int32) &&& 31)) ||| (((lN B).toInt32) &&& (255 : Int32)))) S hw ly_Mod t_Mod t_Mod_ok n_Mod 0 rfl rfl 15 (by decide) tb_5_58 rfl rfl rfl rfl (Nat.le_of_ble_eq_true rfl) d_Mod_pack_59 (fun H locs hw => ?_)
        have hw : Lv _ _ _ _ _ (RMW mo am ti Q w g rb rt rp ro ca va st tr th ha (((((lN T) &&& (63 : Int64)).toInt32) <<< ((8 : Int32) &&& 31)) ||| (((lN B).toInt32) &&& (255 : Int32))) xx rd to) _ _ _ := hw
        refine lv_aload_n hx hb d_Mod_pack_62 rfl (lv_at hl 2 rfl) ?_
        refine lv_iconst (v := 1) hx hb d_Mod_pack_63 (by decide) ?_
        refine q_put (v := .int (jb true)) S hw ly_Mod t_Mod t_Mod_ok n_Mod 0 rfl rfl 16 (by decide) tb_5_59 rfl rfl (jb_nar true) (jb_fit true) (Nat.le_of_ble_eq_true rfl) d_Mod_pack_64 (fun H locs hw => ?_)
        have hw : Lv _ _ _ _ _ (RMW mo am ti Q w g rb rt rp ro ca va st tr th ha (((((lN T) &&& (63 : Int64)).toInt32) <<< ((8 : Int32) &&& 31)) ||| (((lN B).toInt32) &&& (255 : Int32))) true rd to) _ _ _ := hw
        refine lv_aload_n hx hb d_Mod_pack_67 rfl (lv_at hl 2 rfl) ?_
        refine lv_lload hx hb d_Mod_pack_68 (lv_at hl 1 rfl) ?_
        refine q_put (v := .long (lN (T - B))) S hw ly_Mod t_Mod t_Mod_ok n_Mod 0 rfl rfl 17 (by decide) tb_5_60 rfl rfl rfl rfl (Nat.le_of_ble_eq_true rfl) d_Mod_pack_70 (fun H locs hw => ?_)
        have hw : Lv _ _ _ _ _ (RMW mo am ti Q w g rb rt rp ro ca va st tr th ha (((((lN T) &&& (63 : Int64)).toInt32) <<< ((8 : Int32) &&& 31)) ||| (((lN B).toInt32) &&& (255 : Int32))) true (lN (T - B)) to) _ _ _ := hw
        exact hw.rv S hr hlk d_Mod_pack_73 () (rfl) (trivial) (by obtain ⟨i1, i2, i3, i4⟩ := pk_sm hB hT (hE0.trans h30) (sm63 hB hT (Int64.not_lt.mp h39)); unfold kEx kLen; rw [i4, i2, i3, if_pos rfl, if_pos rfl, lN_sub hB])
  · have hnz : ¬ (T - B) / 128 / 2 ^ z = 0 := fun q => h19 (by rw [q]; decide)
    have hz26 : z < 26 := by rcases Nat.lt_or_ge z 26 with h | h; exact h; exact absurd (Nat.div_eq_of_lt (by have := Nat.pow_le_pow_right (n := 2) (by decide) h; have e : (2 : Nat) ^ 26 = 67108864 := (by decide); omega)) hnz
    refine lv_iinc (k := 0) (v := (nI (z + 1))) (lv' := [(7, .int (nI (z + 1))), (5, .long (lN (T - B))), (0, .ref mo), (1, .long (lN B)), (3, .long (lN T))]) hx hb d_Mod_pack_22 hl rfl (iinc1 z) (by decide) rfl (fun ls hl => ?_)
    refine lv_goto hx hb d_Mod_pack_25 rfl ?_
    exact IH8 (z + 1) _ (⟨by omega, by rw [← hI8.2, kB_on (by omega) (by omega) hnz]⟩) (by omega) (lv_sub (l' := [(7, .int (nI (z + 1))), (5, .long (lN (T - B))), (0, .ref mo), (1, .long (lN B)), (3, .long (lN T))]) hl [0, 1, 2, 3, 4] rfl)
