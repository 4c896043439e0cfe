/-! The reference: what stops an instruction, traps. -/
theorem low16 (a : Int32) : cLow a < 16384 ↔ (¬ a < 0 ∧ ¬ 16384 ≤ a) := by
  rw [cLow_n, show (16384 : Int64) = lN 16384 from rfl, lN_lt2 (by have := iN_lt a; omega) (by decide)]
  have e : a = nI a.toBitVec.toNat := iN_of a
  by_cases h : a.toBitVec.toNat < 2 ^ 31
  · rw [e, iN_tn (iN_lt a)]
    constructor
    · intro q
      exact ⟨nI_pos (by omega), nI_ge (b := 16384) q (by decide)⟩
    · intro q
      exact lt_nge2 (c := 16384) (by omega) q.2
  · constructor
    · intro q
      omega
    · intro q
      exfalso
      apply q.1
      rw [Int32.lt_iff_toInt_lt]
      show a.toBitVec.toInt < 0
      rw [BitVec.toInt_neg_iff]
      omega
def rSt (Q : Nat → Cap) (c b : Nat) : Int32 := if nI b ≤ 0 then 0 else if (Q b).1 = false then 0 else if cMay (Q c).2.2 5 = false then 21 else if cMay (Q b).2.2 0 = true then 0 else if cMay (Q c).2.2 6 = true then 0 else 22
def rRe (Q : Nat → Cap) (c : Nat) (y n : Int32) (p b : Nat) : Int32 := if authF (Q c) (nI p) (16 + nI p) = 0 then (if rSt Q c b = 0 then (if rHo (Q c) y n = false then 1 else 0) else rSt Q c b) else authF (Q c) (nI p) (16 + nI p)
def rSp (c : Cap) : Int32 := if authF c 1 17 = 0 then (if rHo c c.2.1 4 = false then 1 else 0) else authF c 1 17
theorem rRe_0 (Q : Nat → Cap) : rRe Q 32 (Q 32).2.1 4 1 0 = rSp (Q 32) := rfl
theorem authF_v (c : Cap) (p wr : Int32) : authF c p wr = 0 ∨ authF c p wr = 2 ∨ authF c p wr = 3 ∨ authF c p wr = wr := by
  unfold authF
  split
  · exact Or.inr (Or.inl rfl)
  · split
    · exact Or.inr (Or.inr (Or.inl rfl))
    · split
      · exact Or.inl rfl
      · exact Or.inr (Or.inr (Or.inr rfl))
theorem pcF_w {fv : Int32} {c : Cap} (h : ¬ rSp c ≤ 0) : pcF fv c = (28, 1024 + rSp c) := by
  unfold rSp at h ⊢
  unfold pcF plF
  have hc : cCov (cbase c.2.2 c.2.1) (ctop c.2.2 c.2.1) c.2.1 (4 : Int32).toInt64 = rHo c c.2.1 4 := rfl
  by_cases h1 : authF c 1 17 = 0
  · rw [if_pos h1] at h ⊢
    rw [if_pos h1]
    by_cases h2 : rHo c c.2.1 4 = false
    · rw [hc, if_pos h2, if_pos h2]
      rfl
    · rw [if_neg h2] at h
      exact absurd (by decide) h
  · rw [if_neg h1, if_neg h1]
    rfl
theorem rSp_0 {c : Cap} (h : rSp c ≤ 0) : authF c 1 17 = 0 ∧ rHo c c.2.1 4 = true := by
  unfold rSp at h
  by_cases h1 : authF c 1 17 = 0
  · rw [if_pos h1] at h
    refine ⟨h1, ?_⟩
    cases h2 : rHo c c.2.1 4 with
    | true => rfl
    | false => rw [h2, if_pos rfl] at h; exact absurd h (by decide)
  · rw [if_neg h1] at h
    rcases authF_v c 1 17 with e | e | e | e
    · exact absurd e h1
    · rw [e] at h; exact absurd h (by decide)
    · rw [e] at h; exact absurd h (by decide)
    · rw [e] at h; exact absurd h (by decide)
theorem pcF_p {fv : Int32} {c : Cap} (h : rSp c ≤ 0) : pcF fv c = if (c.2.1 &&& 3) = 0 then (if cLow c.2.1 < 16384 then (-1, fv) else (1, c.2.1)) else (0, c.2.1) := by
  obtain ⟨h1, h2⟩ := rSp_0 h
  have hc : cCov (cbase c.2.2 c.2.1) (ctop c.2.2 c.2.1) c.2.1 (4 : Int32).toInt64 = rHo c c.2.1 4 := rfl
  unfold pcF plF
  rw [if_pos h1, hc, h2, if_neg (by decide)]
  by_cases h3 : (c.2.1 &&& 3) = 0
  · rw [if_pos h3]
    rw [show (c.2.1 &&& (4 - 1)) = (c.2.1 &&& 3) from rfl, if_pos h3]
    by_cases h4 : cLow c.2.1 < 16384
    · obtain ⟨h5, h6⟩ := (low16 _).mp h4
      rw [if_pos h4, if_neg h5, if_neg h6]
    · rw [if_neg h4]
      by_cases h5 : c.2.1 < 0
      · rw [if_pos h5]; rfl
      · rw [if_neg h5]
        by_cases h6 : 16384 ≤ c.2.1
        · rw [if_pos h6]; rfl
        · exact absurd ((low16 _).mpr ⟨h5, h6⟩) h4
  · rw [if_neg h3]
    rw [show (c.2.1 &&& (4 - 1)) = (c.2.1 &&& 3) from rfl, if_neg h3]
theorem pcF_1 (fv fv' : Int32) (c : Cap) : (pcF fv c).1 = (pcF fv' c).1 := by
  by_cases h : rSp c ≤ 0
  · rw [pcF_p h, pcF_p h]
    split
    · split <;> rfl
    · rfl
  · rw [pcF_w h, pcF_w h]
theorem pcF_neg (fv : Int32) (c : Cap) : (pcF fv c).1 < 0 ↔ (pcF fv c).1 = -1 := by
  by_cases h : rSp c ≤ 0
  · rw [pcF_p h]
    split
    · split
      · exact (by decide : ((-1 : Int32) < 0 ↔ (-1 : Int32) = -1))
      · exact (by decide : ((1 : Int32) < 0 ↔ (1 : Int32) = -1))
    · exact (by decide : ((0 : Int32) < 0 ↔ (0 : Int32) = -1))
  · rw [pcF_w h]
    exact (by decide : ((28 : Int32) < 0 ↔ (28 : Int32) = -1))
def rTo (c : Cap) : Int32 := if rSp c ≤ 0 then c.2.1 else 1024 + rSp c
theorem rTo_n {fv : Int32} {c : Cap} (h : ¬ (pcF fv c).1 = -1) : rTo c = (pcF fv c).2 := by
  unfold rTo
  by_cases h1 : rSp c ≤ 0
  · rw [if_pos h1]
    rw [pcF_p h1] at h ⊢
    split
    · rename_i h3
      rw [if_pos h3] at h
      split
      · rename_i h4
        rw [if_pos h4] at h
        exact absurd rfl h
      · rfl
    · rfl
  · rw [if_neg h1, pcF_w h1]
theorem rS_c {Q : Nat → Cap} {r : Nat} {c : Cap} (h : ¬ nI r = 0) : rSet Q r c = va_up Q r c := if_neg h
theorem kTR_e (Q : Nat → Cap) : rSet (rSet Q 36 (Q 32)) 32 (rSet Q 36 (Q 32) 33) = kTR Q := by
  rw [rS_c (r := 36) (by decide), rS_c (r := 32) (by decide)]
  rfl
set_option maxHeartbeats 4000000 in
set_option maxRecDepth 100000 in
theorem c_Mod_reach (l : Launch) (D : va_G) (ti : Nat → ClassId) (mo : Nat) (am : Nat → Nat) (Q : Nat → Cap) (w g : Nat → Int32) (rb rt : Nat → Int64) (rp : Nat → Int32) (ro ca va st tr th : Int32) (ha : Bool) (pk : Int32) (xx : Bool) (rd : Int64) (to : Int32) (c : Nat) (hc : c < 40) (y n : Int32) (p : Nat) (hp : p < 32) (hp0 : ¬ 16 + nI p = 0) (b : Nat) (hb : b < 40) : Cr l y_Mod_reach (wl y_Mod_reach b_Mod_reach 7 (some .int)) (rmL 6) D clz (ty4 ti) [.ref mo, .int (nI c), .long (cLow y), .int n, .int (nI p), .int (nI b)] (RMW mo am ti Q w g rb rt rp ro ca va st tr th ha pk xx rd to) (some (.int (rRe Q c y n p b))) := by
  refine Cr.ofF (plainFor_of_name (by decide)) (Nat.le_of_ble_eq_true rfl) ?_
  intro p9 e9 s9 m9 b9 me9 c9 ls S hr hlk hl hw
  obtain ⟨hx, hb, hml, hown, hts⟩ := id S
  have hl : lv_has ls 7 [(0, .ref mo), (1, .int (nI c)), (2, .long (cLow y)), (4, .int n), (5, .int (nI p)), (6, .int (nI b))] := hl
  refine lv_aload_n hx hb d_Mod_reach_0 rfl (lv_at hl 0 rfl) ?_
  refine q_get S hw ly_Mod 0 rfl rfl 0 (by decide) tb_5_43 rfl rfl d_Mod_reach_1 ?_
  refine lv_iload_n hx hb d_Mod_reach_4 rfl (lv_at hl 1 rfl) ?_
  refine q_zaldN (k := c) S hw 1 1 rfl rfl (by first | assumption | omega) (by decide) d_Mod_reach_5 ?_
  refine q_ifz_ne S d_Mod_reach_6 rfl (fun h6 => ?_) (fun h6 => ?_)
  · refine lv_aload_n hx hb d_Mod_reach_11 rfl (lv_at hl 0 rfl) ?_
    refine lv_iload_n hx hb d_Mod_reach_12 rfl (lv_at hl 1 rfl) ?_
    refine q_cr (q_runV (As := [.int (nI c)]) (rest := []) S (c_Mod_isOpen l D ti mo am Q w g rb rt rp ro ca va st tr th ha pk xx rd to c (by first | decide | omega)) (cw_v hts tb_5_180 k_Mod_isOpen rfl rfl ⟨by decide, by decide⟩) hw 0 rfl rfl rfl hl.1 rfl (Nat.le_of_ble_eq_true rfl) d_Mod_reach_13 ⟨Nat.zero_le _, Nat.zero_le _⟩) ?_
    refine W.eq (g2 := F0 m9 16 ls [.int (jb (cOpen (Q c).2.2))]) rfl ?_
    refine q_ifz_ne S d_Mod_reach_16 rfl (fun h16 => ?_) (fun h16 => ?_)
    · refine lv_aload_n hx hb d_Mod_reach_21 rfl (lv_at hl 0 rfl) ?_
      refine lv_iload_n hx hb d_Mod_reach_22 rfl (lv_at hl 1 rfl) ?_
      refine lv_iload hx hb d_Mod_reach_23 (lv_at hl 4 rfl) ?_
      refine q_cr (q_runV (As := [.int (nI c), .int (nI p)]) (rest := []) S (c_Mod_has l D ti mo am Q w g rb rt rp ro ca va st tr th ha pk xx rd to c (by first | decide | omega) p (by first | decide | omega)) (cw_v hts tb_5_187 k_Mod_has rfl rfl ⟨by decide, by decide⟩) hw 0 rfl rfl rfl hl.1 rfl (Nat.le_of_ble_eq_true rfl) d_Mod_reach_25 ⟨Nat.zero_le _, Nat.zero_le _⟩) ?_
      refine W.eq (g2 := F0 m9 28 ls [.int (jb (cMay (Q c).2.2 (nI p)))]) rfl ?_
      refine q_ifz_ne S d_Mod_reach_28 rfl (fun h28 => ?_) (fun h28 => ?_)
      · refine lv_iload hx hb d_Mod_reach_37 (lv_at hl 5 rfl) ?_
        refine lv_if_le hx hb d_Mod_reach_39 rfl (fun h39 => ?_) (fun h39 => ?_)
        · refine lv_iload hx hb d_Mod_reach_64 (lv_at hl 5 rfl) ?_
          refine lv_if_le hx hb d_Mod_reach_66 rfl (fun _ => ?_) (fun h => absurd h (not_not_intro h39))
          refine lv_aload_n hx hb d_Mod_reach_102 rfl (lv_at hl 0 rfl) ?_
          refine lv_iload_n hx hb d_Mod_reach_103 rfl (lv_at hl 1 rfl) ?_
          refine lv_lload_n hx hb d_Mod_reach_104 rfl (lv_at hl 2 rfl) ?_
          refine lv_iload hx hb d_Mod_reach_105 (lv_at hl 3 rfl) ?_
          refine q_cr (q_runV (As := [.int (nI c), .long (cLow y), .int n]) (rest := []) S (c_Mod_holds l D ti mo am Q w g rb rt rp ro ca va st tr th ha pk xx rd to c (by first | decide | omega) y n) (cw_v hts tb_5_194 k_Mod_holds rfl rfl ⟨by decide, by decide⟩) hw 0 rfl rfl rfl hl.1 rfl (Nat.le_of_ble_eq_true rfl) d_Mod_reach_107 ⟨Nat.zero_le _, Nat.zero_le _⟩) ?_
          refine W.eq (g2 := F0 m9 110 ls [.int (jb (rHo (Q c) y n))]) rfl ?_
          refine q_ifz_eq S d_Mod_reach_110 rfl (fun h110 => ?_) (fun h110 => ?_)
          · refine lv_iconst (v := 1) hx hb d_Mod_reach_117 (by decide) ?_
            exact rd_i S hr hlk rfl d_Mod_reach_118 (by simp [rRe, rSt, authF, hp0, h6, h16, h28, h39, h110])
          · refine lv_iconst (v := 0) hx hb d_Mod_reach_113 (by decide) ?_
            refine lv_goto hx hb d_Mod_reach_114 rfl ?_
            exact rd_i S hr hlk rfl d_Mod_reach_118 (by simp [rRe, rSt, authF, hp0, h6, h16, h28, h39, h110])
        · refine lv_aload_n hx hb d_Mod_reach_42 rfl (lv_at hl 0 rfl) ?_
          refine q_get S hw ly_Mod 0 rfl rfl 0 (by decide) tb_5_43 rfl rfl d_Mod_reach_43 ?_
          refine lv_iload hx hb d_Mod_reach_46 (lv_at hl 5 rfl) ?_
          refine q_zaldN (k := b) S hw 1 1 rfl rfl (by first | assumption | omega) (by decide) d_Mod_reach_48 ?_
          refine q_ifz_eq S d_Mod_reach_49 rfl (fun h49 => ?_) (fun h49 => ?_)
          · refine lv_iload hx hb d_Mod_reach_64 (lv_at hl 5 rfl) ?_
            refine lv_if_le hx hb d_Mod_reach_66 rfl (fun h => absurd h (h39)) (fun _ => ?_)
            refine lv_aload_n hx hb d_Mod_reach_69 rfl (lv_at hl 0 rfl) ?_
            refine q_get S hw ly_Mod 0 rfl rfl 0 (by decide) tb_5_43 rfl rfl d_Mod_reach_70 ?_
            refine lv_iload hx hb d_Mod_reach_73 (lv_at hl 5 rfl) ?_
            refine q_zaldN (k := b) S hw 1 1 rfl rfl (by first | assumption | omega) (by decide) d_Mod_reach_75 ?_
            refine q_ifz_eq S d_Mod_reach_76 rfl (fun h76 => ?_) (fun h76 => ?_)
            · refine lv_aload_n hx hb d_Mod_reach_102 rfl (lv_at hl 0 rfl) ?_
              refine lv_iload_n hx hb d_Mod_reach_103 rfl (lv_at hl 1 rfl) ?_
              refine lv_lload_n hx hb d_Mod_reach_104 rfl (lv_at hl 2 rfl) ?_
              refine lv_iload hx hb d_Mod_reach_105 (lv_at hl 3 rfl) ?_
              refine q_cr (q_runV (As := [.int (nI c), .long (cLow y), .int n]) (rest := []) S (c_Mod_holds l D ti mo am Q w g rb rt rp ro ca va st tr th ha pk xx rd to c (by first | decide | omega) y n) (cw_v hts tb_5_194 k_Mod_holds rfl rfl ⟨by decide, by decide⟩) hw 0 rfl rfl rfl hl.1 rfl (Nat.le_of_ble_eq_true rfl) d_Mod_reach_107 ⟨Nat.zero_le _, Nat.zero_le _⟩) ?_
              refine W.eq (g2 := F0 m9 110 ls [.int (jb (rHo (Q c) y n))]) rfl ?_
              refine q_ifz_eq S d_Mod_reach_110 rfl (fun h110 => ?_) (fun h110 => ?_)
              · refine lv_iconst (v := 1) hx hb d_Mod_reach_117 (by decide) ?_
                exact rd_i S hr hlk rfl d_Mod_reach_118 (by simp [rRe, rSt, authF, hp0, h6, h16, h28, h39, h49, h76, h110])
              · refine lv_iconst (v := 0) hx hb d_Mod_reach_113 (by decide) ?_
                refine lv_goto hx hb d_Mod_reach_114 rfl ?_
                exact rd_i S hr hlk rfl d_Mod_reach_118 (by simp [rRe, rSt, authF, hp0, h6, h16, h28, h39, h49, h76, h110])
            · rw [h49] at h76
              exact absurd h76 (by decide)
          · refine lv_aload_n hx hb d_Mod_reach_52 rfl (lv_at hl 0 rfl) ?_
            refine lv_iload_n hx hb d_Mod_reach_53 rfl (lv_at hl 1 rfl) ?_
            refine lv_iconst (v := 5) hx hb d_Mod_reach_54 (by decide) ?_
            refine q_cr (q_runV (As := [.int (nI c), .int (5 : Int32)]) (rest := []) S (c_Mod_has l D ti mo am Q w g rb rt rp ro ca va st tr th ha pk xx rd to c (by first | decide | omega) 5 (by first | decide | omega)) (cw_v hts tb_5_187 k_Mod_has rfl rfl ⟨by decide, by decide⟩) hw 0 rfl rfl rfl hl.1 rfl (Nat.le_of_ble_eq_true rfl) d_Mod_reach_55 ⟨Nat.zero_le _, Nat.zero_le _⟩) ?_
            refine W.eq (g2 := F0 m9 58 ls [.int (jb (cMay (Q c).2.2 (5 : Int32)))]) rfl ?_
            refine q_ifz_ne S d_Mod_reach_58 rfl (fun h58 => ?_) (fun h58 => ?_)
            · refine lv_iload hx hb d_Mod_reach_64 (lv_at hl 5 rfl) ?_
              refine lv_if_le hx hb d_Mod_reach_66 rfl (fun h => absurd h (h39)) (fun _ => ?_)
              refine lv_aload_n hx hb d_Mod_reach_69 rfl (lv_at hl 0 rfl) ?_
              refine q_get S hw ly_Mod 0 rfl rfl 0 (by decide) tb_5_43 rfl rfl d_Mod_reach_70 ?_
              refine lv_iload hx hb d_Mod_reach_73 (lv_at hl 5 rfl) ?_
              refine q_zaldN (k := b) S hw 1 1 rfl rfl (by first | assumption | omega) (by decide) d_Mod_reach_75 ?_
              refine q_ifz_eq S d_Mod_reach_76 rfl (fun h76 => ?_) (fun h76 => ?_)
              · rw [h49] at h76
                exact absurd h76 (by decide)
              · refine lv_aload_n hx hb d_Mod_reach_79 rfl (lv_at hl 0 rfl) ?_
                refine lv_iload hx hb d_Mod_reach_80 (lv_at hl 5 rfl) ?_
                refine lv_iconst (v := 0) hx hb d_Mod_reach_82 (by decide) ?_
                refine q_cr (q_runV (As := [.int (nI b), .int (0 : Int32)]) (rest := []) S (c_Mod_has l D ti mo am Q w g rb rt rp ro ca va st tr th ha pk xx rd to b (by first | decide | omega) 0 (by first | decide | omega)) (cw_v hts tb_5_187 k_Mod_has rfl rfl ⟨by decide, by decide⟩) hw 0 rfl rfl rfl hl.1 rfl (Nat.le_of_ble_eq_true rfl) d_Mod_reach_83 ⟨Nat.zero_le _, Nat.zero_le _⟩) ?_
                refine W.eq (g2 := F0 m9 86 ls [.int (jb (cMay (Q b).2.2 (0 : Int32)))]) rfl ?_
                refine q_ifz_ne S d_Mod_reach_86 rfl (fun h86 => ?_) (fun h86 => ?_)
                · refine lv_aload_n hx hb d_Mod_reach_102 rfl (lv_at hl 0 rfl) ?_
                  refine lv_iload_n hx hb d_Mod_reach_103 rfl (lv_at hl 1 rfl) ?_
                  refine lv_lload_n hx hb d_Mod_reach_104 rfl (lv_at hl 2 rfl) ?_
                  refine lv_iload hx hb d_Mod_reach_105 (lv_at hl 3 rfl) ?_
                  refine q_cr (q_runV (As := [.int (nI c), .long (cLow y), .int n]) (rest := []) S (c_Mod_holds l D ti mo am Q w g rb rt rp ro ca va st tr th ha pk xx rd to c (by first | decide | omega) y n) (cw_v hts tb_5_194 k_Mod_holds rfl rfl ⟨by decide, by decide⟩) hw 0 rfl rfl rfl hl.1 rfl (Nat.le_of_ble_eq_true rfl) d_Mod_reach_107 ⟨Nat.zero_le _, Nat.zero_le _⟩) ?_
                  refine W.eq (g2 := F0 m9 110 ls [.int (jb (rHo (Q c) y n))]) rfl ?_
                  refine q_ifz_eq S d_Mod_reach_110 rfl (fun h110 => ?_) (fun h110 => ?_)
                  · refine lv_iconst (v := 1) hx hb d_Mod_reach_117 (by decide) ?_
                    exact rd_i S hr hlk rfl d_Mod_reach_118 (by simp [rRe, rSt, authF, hp0, h6, h16, h28, h39, h49, h58, h76, h86, h110])
                  · refine lv_iconst (v := 0) hx hb d_Mod_reach_113 (by decide) ?_
                    refine lv_goto hx hb d_Mod_reach_114 rfl ?_
                    exact rd_i S hr hlk rfl d_Mod_reach_118 (by simp [rRe, rSt, authF, hp0, h6, h16, h28, h39, h49, h58, h76, h86, h110])
                · refine lv_aload_n hx hb d_Mod_reach_89 rfl (lv_at hl 0 rfl) ?_
                  refine lv_iload_n hx hb d_Mod_reach_90 rfl (lv_at hl 1 rfl) ?_
                  refine lv_bipush (v := 6) hx hb d_Mod_reach_91 (by decide) ?_
                  refine q_cr (q_runV (As := [.int (nI c), .int (6 : Int32)]) (rest := []) S (c_Mod_has l D ti mo am Q w g rb rt rp ro ca va st tr th ha pk xx rd to c (by first | decide | omega) 6 (by first | decide | omega)) (cw_v hts tb_5_187 k_Mod_has rfl rfl ⟨by decide, by decide⟩) hw 0 rfl rfl rfl hl.1 rfl (Nat.le_of_ble_eq_true rfl) d_Mod_reach_93 ⟨Nat.zero_le _, Nat.zero_le _⟩) ?_
                  refine W.eq (g2 := F0 m9 96 ls [.int (jb (cMay (Q c).2.2 (6 : Int32)))]) rfl ?_
                  refine q_ifz_ne S d_Mod_reach_96 rfl (fun h96 => ?_) (fun h96 => ?_)
                  · refine lv_aload_n hx hb d_Mod_reach_102 rfl (lv_at hl 0 rfl) ?_
                    refine lv_iload_n hx hb d_Mod_reach_103 rfl (lv_at hl 1 rfl) ?_
                    refine lv_lload_n hx hb d_Mod_reach_104 rfl (lv_at hl 2 rfl) ?_
                    refine lv_iload hx hb d_Mod_reach_105 (lv_at hl 3 rfl) ?_
                    refine q_cr (q_runV (As := [.int (nI c), .long (cLow y), .int n]) (rest := []) S (c_Mod_holds l D ti mo am Q w g rb rt rp ro ca va st tr th ha pk xx rd to c (by first | decide | omega) y n) (cw_v hts tb_5_194 k_Mod_holds rfl rfl ⟨by decide, by decide⟩) hw 0 rfl rfl rfl hl.1 rfl (Nat.le_of_ble_eq_true rfl) d_Mod_reach_107 ⟨Nat.zero_le _, Nat.zero_le _⟩) ?_
                    refine W.eq (g2 := F0 m9 110 ls [.int (jb (rHo (Q c) y n))]) rfl ?_
                    refine q_ifz_eq S d_Mod_reach_110 rfl (fun h110 => ?_) (fun h110 => ?_)
                    · refine lv_iconst (v := 1) hx hb d_Mod_reach_117 (by decide) ?_
                      exact rd_i S hr hlk rfl d_Mod_reach_118 (by simp [rRe, rSt, authF, hp0, h6, h16, h28, h39, h49, h58, h76, h86, h96, h110])
                    · refine lv_iconst (v := 0) hx hb d_Mod_reach_113 (by decide) ?_
                      refine lv_goto hx hb d_Mod_reach_114 rfl ?_
                      exact rd_i S hr hlk rfl d_Mod_reach_118 (by simp [rRe, rSt, authF, hp0, h6, h16, h28, h39, h49, h58, h76, h86, h96, h110])
                  · refine lv_bipush (v := 22) hx hb d_Mod_reach_99 (by decide) ?_
                    exact rd_i S hr hlk rfl d_Mod_reach_101 (by simp [rRe, rSt, authF, hp0, h6, h16, h28, h39, h49, h58, h76, h86, h96])
            · refine lv_bipush (v := 21) hx hb d_Mod_reach_61 (by decide) ?_
              exact rd_i S hr hlk rfl d_Mod_reach_63 (by simp [rRe, rSt, authF, hp0, h6, h16, h28, h39, h49, h58])
      · refine lv_bipush (v := 16) hx hb d_Mod_reach_31 (by decide) ?_
        refine lv_iload hx hb d_Mod_reach_33 (lv_at hl 4 rfl) ?_
        refine lv_iadd hx hb d_Mod_reach_35 ?_
        refine q_topi (z := nI (16 + p)) (nI_add 16 p) ?_
        refine q_topi (z := (16 + nI p)) ((nI_add 16 p).symm) ?_
        exact rd_i S hr hlk rfl d_Mod_reach_36 (by simp [rRe, rSt, authF, hp0, h6, h16, h28])
    · refine lv_iconst (v := 3) hx hb d_Mod_reach_19 (by decide) ?_
      exact rd_i S hr hlk rfl d_Mod_reach_20 (by simp [rRe, rSt, authF, hp0, h6, h16])
  · refine lv_iconst (v := 2) hx hb d_Mod_reach_9 (by decide) ?_
    exact rd_i S hr hlk rfl d_Mod_reach_10 (by simp [rRe, rSt, authF, hp0, h6])
set_option maxHeartbeats 4000000 in
set_option maxRecDepth 100000 in
theorem c_Mod_stop (l : Launch) (D : va_G) (ti : Nat → ClassId) (mo : Nat) (am : Nat → Nat) (Q : Nat → Cap) (w g : Nat → Int32) (rb rt : Nat → Int64) (rp : Nat → Int32) (ro ca va st tr th : Int32) (ha : Bool) (pk : Int32) (xx : Bool) (rd : Int64) (to : Int32) : Cg l y_Mod_stop (wl y_Mod_stop b_Mod_stop 3 (some .int)) (rmL 7) D clz (ty4 ti) [.ref mo] (RMW mo am ti Q w g rb rt rp ro ca va st tr th ha pk xx rd to) (fun _ : Unit => some (.int (pcF 0 (Q 32)).1)) (fun _ => (RMW mo am ti Q w g rb rt rp ro ca va st tr th ha pk xx rd (rTo (Q 32)))) (fun _ => True) := by
  refine Cg.ofF (plainFor_of_name (by decide)) (Nat.le_of_ble_eq_true rfl) ?_
  intro p9 e9 s9 m9 b9 me9 c9 ls S hr hlk hl hw
  obtain ⟨hx, hb, hml, hown, hts⟩ := id S
  have hl : lv_has ls 3 [(0, .ref mo)] := hl
  refine lv_aload_n hx hb d_Mod_stop_0 rfl (lv_at hl 0 rfl) ?_
  refine q_get S hw ly_Mod 0 rfl rfl 1 (by decide) tb_5_44 rfl rfl d_Mod_stop_1 ?_
  refine lv_bipush (v := 32) hx hb d_Mod_stop_4 (by decide) ?_
  refine q_ialdN (k := 32) S hw 2 0 rfl rfl (by first | assumption | omega) (by decide) d_Mod_stop_6 ?_
  refine lv_istore_n (lv' := [(1, .int ((Q 32).2.1)), (0, .ref mo)]) hx hb d_Mod_stop_7 rfl hl (by decide) rfl (fun ls hl => ?_)
  refine lv_aload_n hx hb d_Mod_stop_8 rfl (lv_at hl 1 rfl) ?_
  refine lv_bipush (v := 32) hx hb d_Mod_stop_9 (by decide) ?_
  refine lv_iload_n hx hb d_Mod_stop_11 rfl (lv_at hl 0 rfl) ?_
  refine q_cr (q_runS (As := [.int ((Q 32).2.1)]) (rest := [.int (32 : Int32), .ref mo]) S ((c_Mod_low l D (ty4 ti) ((Q 32).2.1)).nil _) (cw_s hts tb_5_118 k_Mod_low rfl rfl ⟨by decide, by decide⟩) hw rfl hl.1 rfl (Nat.le_of_ble_eq_true rfl) d_Mod_stop_12 ⟨Nat.zero_le _, Nat.zero_le _⟩) ?_
  refine W.eq (g2 := F0 m9 15 ls [.long (cLow ((Q 32).2.1)), .int (32 : Int32), .ref mo]) rfl ?_
  refine lv_iconst (v := 4) hx hb d_Mod_stop_15 (by decide) ?_
  refine lv_iconst (v := 1) hx hb d_Mod_stop_16 (by decide) ?_
  refine lv_iconst (v := 0) hx hb d_Mod_stop_17 (by decide) ?_
  refine q_cr (q_runV (As := [.int (32 : Int32), .long (cLow ((Q 32).2.1)), .int (4 : Int32), .int (1 : Int32), .int (0 : Int32)]) (rest := []) S (c_Mod_reach l D ti mo am Q w g rb rt rp ro ca va st tr th ha pk xx rd to 32 (by first | decide | omega) ((Q 32).2.1) (4 : Int32) 1 (by first | decide | omega) (by decide) 0 (by first | decide | omega)) (cw_v hts tb_5_176 k_Mod_reach rfl rfl ⟨by decide, by decide⟩) hw 0 rfl rfl rfl hl.1 rfl (Nat.le_of_ble_eq_true rfl) d_Mod_stop_18 ⟨Nat.zero_le _, Nat.zero_le _⟩) ?_
  refine W.eq (g2 := F0 m9 21 ls [.int (rRe Q 32 ((Q 32).2.1) (4 : Int32) 1 0)]) rfl ?_
  refine q_topi (z := (rSp (Q 32))) (rRe_0 Q) ?_
  refine lv_istore_n (lv' := [(2, .int (rSp (Q 32))), (1, .int ((Q 32).2.1)), (0, .ref mo)]) hx hb d_Mod_stop_21 rfl hl (by decide) rfl (fun ls hl => ?_)
  refine lv_aload_n hx hb d_Mod_stop_22 rfl (lv_at hl 2 rfl) ?_
  refine lv_iload_n hx hb d_Mod_stop_23 rfl (lv_at hl 0 rfl) ?_
  refine lv_if_le hx hb d_Mod_stop_24 rfl (fun h24 => ?_) (fun h24 => ?_)
  · refine lv_iload_n hx hb d_Mod_stop_35 rfl (lv_at hl 1 rfl) ?_
    refine q_put (v := .int ((Q 32).2.1)) S hw ly_Mod t_Mod t_Mod_ok n_Mod 0 rfl rfl 18 (by decide) tb_5_61 rfl rfl rfl rfl (Nat.le_of_ble_eq_true rfl) d_Mod_stop_36 (fun H locs hw => ?_)
    have hw : Lv _ _ _ _ _ (RMW mo am ti Q w g rb rt rp ro ca va st tr th ha pk xx rd ((Q 32).2.1)) _ _ _ := hw
    refine lv_iload_n hx hb d_Mod_stop_39 rfl (lv_at hl 0 rfl) ?_
    refine lv_if_le hx hb d_Mod_stop_40 rfl (fun _ => ?_) (fun h => absurd h (not_not_intro h24))
    refine lv_iload_n hx hb d_Mod_stop_48 rfl (lv_at hl 1 rfl) ?_
    refine lv_iconst (v := 3) hx hb d_Mod_stop_49 (by decide) ?_
    refine lv_iand hx hb d_Mod_stop_50 ?_
    refine lv_if_eq hx hb d_Mod_stop_51 rfl (fun h51 => ?_) (fun h51 => ?_)
    · refine lv_iload_n hx hb d_Mod_stop_58 rfl (lv_at hl 1 rfl) ?_
      refine q_cr (q_runS (As := [.int ((Q 32).2.1)]) (rest := []) S ((c_Mod_low l D (ty4 ti) ((Q 32).2.1)).nil _) (cw_s hts tb_5_118 k_Mod_low rfl rfl ⟨by decide, by decide⟩) hw rfl hl.1 rfl (Nat.le_of_ble_eq_true rfl) d_Mod_stop_59 ⟨Nat.zero_le _, Nat.zero_le _⟩) ?_
      refine W.eq (g2 := F0 m9 62 ls [.long (cLow ((Q 32).2.1))]) rfl ?_
      refine lv_ldc2 (v := 16384) hx hb hown (hts _ tb_5_201) d_Mod_stop_62 ?_
      refine q_lc_lt S d_Mod_stop_65 d_Mod_stop_66 rfl (fun h66 => ?_) (fun h66 => ?_)
      · refine lv_iconst (v := -1) hx hb d_Mod_stop_73 (by decide) ?_
        exact hw.riz S hr hlk (rfl) d_Mod_stop_74 () (by rw [pcF_p h24, if_pos h51, if_pos h66]) (trivial) (by unfold rTo; rw [if_pos h24])
      · refine lv_iconst (v := 1) hx hb d_Mod_stop_69 (by decide) ?_
        refine lv_goto hx hb d_Mod_stop_70 rfl ?_
        exact hw.riz S hr hlk (rfl) d_Mod_stop_74 () (by rw [pcF_p h24, if_pos h51, if_neg h66]) (trivial) (by unfold rTo; rw [if_pos h24])
    · refine lv_iconst (v := 0) hx hb d_Mod_stop_54 (by decide) ?_
      refine lv_goto hx hb d_Mod_stop_55 rfl ?_
      exact hw.riz S hr hlk (rfl) d_Mod_stop_74 () (by rw [pcF_p h24, if_neg h51]) (trivial) (by unfold rTo; rw [if_pos h24])
  · refine lv_sipush (v := 1024) hx hb d_Mod_stop_27 (by decide) ?_
    refine lv_iload_n hx hb d_Mod_stop_30 rfl (lv_at hl 0 rfl) ?_
    refine lv_iadd hx hb d_Mod_stop_31 ?_
    refine lv_goto hx hb d_Mod_stop_32 rfl ?_
    refine q_put (v := .int ((1024 : Int32) + (rSp (Q 32)))) S hw ly_Mod t_Mod t_Mod_ok n_Mod 0 rfl rfl 18 (by decide) tb_5_61 rfl rfl rfl rfl (Nat.le_of_ble_eq_true rfl) d_Mod_stop_36 (fun H locs hw => ?_)
    have hw : Lv _ _ _ _ _ (RMW mo am ti Q w g rb rt rp ro ca va st tr th ha pk xx rd ((1024 : Int32) + (rSp (Q 32)))) _ _ _ := hw
    refine lv_iload_n hx hb d_Mod_stop_39 rfl (lv_at hl 0 rfl) ?_
    refine lv_if_le hx hb d_Mod_stop_40 rfl (fun h => absurd h (h24)) (fun _ => ?_)
    refine lv_bipush (v := 28) hx hb d_Mod_stop_43 (by decide) ?_
    refine lv_goto hx hb d_Mod_stop_45 rfl ?_
    exact hw.riz S hr hlk (rfl) d_Mod_stop_74 () (by rw [pcF_w h24]) (trivial) (by unfold rTo; rw [if_neg h24])
set_option maxHeartbeats 4000000 in
set_option maxRecDepth 100000 in
theorem c_Mod_trap (l : Launch) (D : va_G) (ti : Nat → ClassId) (mo : Nat) (am : Nat → Nat) (Q : Nat → Cap) (w g : Nat → Int32) (rb rt : Nat → Int64) (rp : Nat → Int32) (ro ca va st tr th : Int32) (pk : Int32) (xx : Bool) (rd : Int64) (to : Int32) (c v : Int32) : Cg l y_Mod_trap (wl y_Mod_trap b_Mod_trap 3 (some .boolean)) (rmL 8) D clz (ty4 ti) [.ref mo, .int c, .int v] (RMW mo am ti Q w g rb rt rp ro ca va st tr th false pk xx rd to) (fun _ : Unit => some (.int (jb false))) (fun _ => (RMW mo am ti (kTR Q) w g rb rt rp ro c v st (tr + 1) th (kHa v Q) pk xx rd (rTo (kTR Q 32)))) (fun _ => True) := by
  refine Cg.ofF (plainFor_of_name (by decide)) (Nat.le_of_ble_eq_true rfl) ?_
  intro p9 e9 s9 m9 b9 me9 c9 ls S hr hlk hl hw
  obtain ⟨hx, hb, hml, hown, hts⟩ := id S
  have hl : lv_has ls 3 [(0, .ref mo), (1, .int c), (2, .int v)] := hl
  refine lv_aload_n hx hb d_Mod_trap_0 rfl (lv_at hl 0 rfl) ?_
  refine lv_bipush (v := 32) hx hb d_Mod_trap_1 (by decide) ?_
  refine lv_bipush (v := 36) hx hb d_Mod_trap_3 (by decide) ?_
  refine q_cg (q_runV (As := [.int (32 : Int32), .int (36 : Int32)]) (rest := []) S (c_Mod_copy l D ti mo am Q w g rb rt rp ro ca va st tr th false pk xx rd to 32 36 (by first | decide | omega) (by first | decide | omega)) (cw_v hts tb_5_206 k_Mod_copy rfl rfl ⟨by decide, by decide⟩) hw 0 rfl rfl rfl hl.1 rfl (Nat.le_of_ble_eq_true rfl) d_Mod_trap_5 ⟨Nat.zero_le _, Nat.zero_le _⟩) hw (fun z hD => qD_same hD rfl) (fun z9 H locs hp9 hw => ?_)
  refine W.eq (g2 := F0 m9 8 ls []) rfl ?_
  have hw : Lv _ _ _ _ _ (RMW mo am ti (rSet Q 36 (Q 32)) w g rb rt rp ro ca va st tr th false pk xx rd to) _ _ _ := hw
  refine lv_aload_n hx hb d_Mod_trap_8 rfl (lv_at hl 0 rfl) ?_
  refine lv_iload_n hx hb d_Mod_trap_9 rfl (lv_at hl 1 rfl) ?_
  refine q_put (v := .int c) S hw ly_Mod t_Mod t_Mod_ok n_Mod 0 rfl rfl 9 (by decide) tb_5_52 rfl rfl rfl rfl (Nat.le_of_ble_eq_true rfl) d_Mod_trap_10 (fun H locs hw => ?_)
  have hw : Lv _ _ _ _ _ (RMW mo am ti (rSet Q 36 (Q 32)) w g rb rt rp ro c va st tr th false pk xx rd to) _ _ _ := hw
  refine lv_aload_n hx hb d_Mod_trap_13 rfl (lv_at hl 0 rfl) ?_
  refine lv_iload_n hx hb d_Mod_trap_14 rfl (lv_at hl 2 rfl) ?_
  refine q_put (v := .int v) S hw ly_Mod t_Mod t_Mod_ok n_Mod 0 rfl rfl 10 (by decide) tb_5_53 rfl rfl rfl rfl (Nat.le_of_ble_eq_true rfl) d_Mod_trap_15 (fun H locs hw => ?_)
  have hw : Lv _ _ _ _ _ (RMW mo am ti (rSet Q 36 (Q 32)) w g rb rt rp ro c v st tr th false pk xx rd to) _ _ _ := hw
  refine lv_aload_n hx hb d_Mod_trap_18 rfl (lv_at hl 0 rfl) ?_
  refine lv_bipush (v := 33) hx hb d_Mod_trap_19 (by decide) ?_
  refine lv_bipush (v := 32) hx hb d_Mod_trap_21 (by decide) ?_
  refine q_cg (q_runV (As := [.int (33 : Int32), .int (32 : Int32)]) (rest := []) S (c_Mod_copy l D ti mo am (rSet Q 36 (Q 32)) w g rb rt rp ro c v st tr th false pk xx rd to 33 32 (by first | decide | omega) (by first | decide | omega)) (cw_v hts tb_5_206 k_Mod_copy rfl rfl ⟨by decide, by decide⟩) hw 0 rfl rfl rfl hl.1 rfl (Nat.le_of_ble_eq_true rfl) d_Mod_trap_23 ⟨Nat.zero_le _, Nat.zero_le _⟩) hw (fun z hD => qD_same hD rfl) (fun z9 H locs hp9 hw => ?_)
  refine W.eq (g2 := F0 m9 26 ls []) rfl ?_
  have hw : Lv _ _ _ _ _ (RMW mo am ti (rSet (rSet Q 36 (Q 32)) 32 ((rSet Q 36 (Q 32)) 33)) w g rb rt rp ro c v st tr th false pk xx rd to) _ _ _ := hw
  refine lv_aload_n hx hb d_Mod_trap_26 rfl (lv_at hl 0 rfl) ?_
  refine lv_dup hx hb d_Mod_trap_27 rfl ?_
  refine q_get S hw ly_Mod 0 rfl rfl 12 (by decide) tb_5_55 rfl rfl d_Mod_trap_28 ?_
  refine lv_iconst (v := 1) hx hb d_Mod_trap_31 (by decide) ?_
  refine lv_iadd hx hb d_Mod_trap_32 ?_
  refine q_put (v := .int (tr + (1 : Int32))) S hw ly_Mod t_Mod t_Mod_ok n_Mod 0 rfl rfl 12 (by decide) tb_5_55 rfl rfl rfl rfl (Nat.le_of_ble_eq_true rfl) d_Mod_trap_33 (fun H locs hw => ?_)
  have hw : Lv _ _ _ _ _ (RMW mo am ti (rSet (rSet Q 36 (Q 32)) 32 ((rSet Q 36 (Q 32)) 33)) w g rb rt rp ro c v st (tr + (1 : Int32)) th false pk xx rd to) _ _ _ := hw
  refine lv_aload_n hx hb d_Mod_trap_36 rfl (lv_at hl 0 rfl) ?_
  refine q_cg (q_runV (As := []) (rest := []) S (c_Mod_stop l D ti mo am (rSet (rSet Q 36 (Q 32)) 32 ((rSet Q 36 (Q 32)) 33)) w g rb rt rp ro c v st (tr + (1 : Int32)) th false pk xx rd to) (cw_v hts tb_5_172 k_Mod_stop rfl rfl ⟨by decide, by decide⟩) hw 0 rfl rfl rfl hl.1 rfl (Nat.le_of_ble_eq_true rfl) d_Mod_trap_37 ⟨Nat.zero_le _, Nat.zero_le _⟩) hw (fun z hD => qD_same hD rfl) (fun z9 H locs hp9 hw => ?_)
  refine W.eq (g2 := F0 m9 40 ls [.int ((pcF 0 ((rSet (rSet Q 36 (Q 32)) 32 ((rSet Q 36 (Q 32)) 33)) 32)).1)]) rfl ?_
  have hw : Lv _ _ _ _ _ (RMW mo am ti (rSet (rSet Q 36 (Q 32)) 32 ((rSet Q 36 (Q 32)) 33)) w g rb rt rp ro c v st (tr + (1 : Int32)) th false pk xx rd (rTo ((rSet (rSet Q 36 (Q 32)) 32 ((rSet Q 36 (Q 32)) 33)) 32))) _ _ _ := hw
  refine lv_if_lt hx hb d_Mod_trap_40 rfl (fun h40 => ?_) (fun h40 => ?_)
  · refine lv_iconst (v := 0) hx hb d_Mod_trap_48 (by decide) ?_
    exact hw.riz S hr hlk (rfl) d_Mod_trap_49 () (rfl) (trivial) (by rw [kTR_e] at h40 ⊢; unfold kHa; rw [pcF_1 v 0, if_pos ((pcF_neg 0 _).mp h40)])
  · refine lv_aload_n hx hb d_Mod_trap_43 rfl (lv_at hl 0 rfl) ?_
    refine lv_iconst (v := 1) hx hb d_Mod_trap_44 (by decide) ?_
    refine q_put (v := .int (jb true)) S hw ly_Mod t_Mod t_Mod_ok n_Mod 0 rfl rfl 14 (by decide) tb_5_57 rfl rfl (jb_nar true) (jb_fit true) (Nat.le_of_ble_eq_true rfl) d_Mod_trap_45 (fun H locs hw => ?_)
    have hw : Lv _ _ _ _ _ (RMW mo am ti (rSet (rSet Q 36 (Q 32)) 32 ((rSet Q 36 (Q 32)) 33)) w g rb rt rp ro c v st (tr + (1 : Int32)) th true pk xx rd (rTo ((rSet (rSet Q 36 (Q 32)) 32 ((rSet Q 36 (Q 32)) 33)) 32))) _ _ _ := hw
    refine lv_iconst (v := 0) hx hb d_Mod_trap_48 (by decide) ?_
    exact hw.riz S hr hlk (rfl) d_Mod_trap_49 () (rfl) (trivial) (by rw [kTR_e] at h40 ⊢; unfold kHa; rw [pcF_1 v 0, if_neg (fun q => h40 ((pcF_neg 0 _).mpr q))])
set_option maxHeartbeats 4000000 in
set_option maxRecDepth 100000 in
theorem c_Mod_broken (l : Launch) (D : va_G) (ti : Nat → ClassId) (mo : Nat) (am : Nat → Nat) (Q : Nat → Cap) (w g : Nat → Int32) (rb rt : Nat → Int64) (rp : Nat → Int32) (ro ca va st tr th : Int32) (pk : Int32) (xx : Bool) (rd : Int64) (to : Int32) (k : Nat) (y : Int32) : Cg l y_Mod_broken (wl y_Mod_broken b_Mod_broken 3 (some .boolean)) (rmL 9) D clz (ty4 ti) [.ref mo, .int (nI k), .int y] (RMW mo am ti Q w g rb rt rp ro ca va st tr th false pk xx rd to) (fun _ : Unit => some (.int (jb false))) (fun _ => (RMW mo am ti (kTR Q) w g rb rt rp ro 28 (32 * nI k + y) st (tr + 1) th (kHa (32 * nI k + y) Q) pk xx rd (rTo (kTR Q 32)))) (fun _ => True) := by
  refine Cg.ofF (plainFor_of_name (by decide)) (Nat.le_of_ble_eq_true rfl) ?_
  intro p9 e9 s9 m9 b9 me9 c9 ls S hr hlk hl hw
  obtain ⟨hx, hb, hml, hown, hts⟩ := id S
  have hl : lv_has ls 3 [(0, .ref mo), (1, .int (nI k)), (2, .int y)] := hl
  refine lv_aload_n hx hb d_Mod_broken_0 rfl (lv_at hl 0 rfl) ?_
  refine lv_bipush (v := 28) hx hb d_Mod_broken_1 (by decide) ?_
  refine lv_bipush (v := 32) hx hb d_Mod_broken_3 (by decide) ?_
  refine lv_iload_n hx hb d_Mod_broken_5 rfl (lv_at hl 1 rfl) ?_
  refine lv_imul hx hb d_Mod_broken_6 ?_
  refine q_topi (z := nI (32 * k)) (pk_mul 32 k) ?_
  refine q_topi (z := ((32 : Int32) * nI k)) ((pk_mul 32 k).symm) ?_
  refine lv_iload_n hx hb d_Mod_broken_7 rfl (lv_at hl 2 rfl) ?_
  refine lv_iadd hx hb d_Mod_broken_8 ?_
  refine q_cg (q_runV (As := [.int (28 : Int32), .int (((32 : Int32) * nI k) + y)]) (rest := []) S (c_Mod_trap l D ti mo am Q w g rb rt rp ro ca va st tr th pk xx rd to (28 : Int32) (((32 : Int32) * nI k) + y)) (cw_v hts tb_5_202 k_Mod_trap rfl rfl ⟨by decide, by decide⟩) hw 0 rfl rfl rfl hl.1 rfl (Nat.le_of_ble_eq_true rfl) d_Mod_broken_9 ⟨Nat.zero_le _, Nat.zero_le _⟩) hw (fun z hD => qD_same hD rfl) (fun z9 H locs hp9 hw => ?_)
  refine W.eq (g2 := F0 m9 12 ls [.int (jb false)]) rfl ?_
  have hw : Lv _ _ _ _ _ (RMW mo am ti (kTR Q) w g rb rt rp ro (28 : Int32) (((32 : Int32) * nI k) + y) st (tr + 1) th (kHa (((32 : Int32) * nI k) + y) Q) pk xx rd (rTo (kTR Q 32))) _ _ _ := hw
  exact hw.riz S hr hlk (jb_nar _) d_Mod_broken_12 () (rfl) (trivial) (rfl)
set_option maxHeartbeats 4000000 in
set_option maxRecDepth 100000 in
theorem c_Mod_link (l : Launch) (D : va_G) (ti : Nat → ClassId) (mo : Nat) (am : Nat → Nat) (Q : Nat → Cap) (w g : Nat → Int32) (rb rt : Nat → Int64) (rp : Nat → Int32) (ro ca va st tr th : Int32) (ha : Bool) (pk : Int32) (xx : Bool) (rd : Int64) (to : Int32) : Cg l y_Mod_link (wl y_Mod_link b_Mod_link 1 none) (rmL 6) D clz (ty4 ti) [.ref mo] (RMW mo am ti Q w g rb rt rp ro ca va st tr th ha pk xx rd to) (fun _ : Unit => none) (fun _ => (RMW mo am ti (va_up Q 38 (lkC (Q 32))) w g rb rt rp ro ca va st tr th ha pk xx rd to)) (fun _ => True) := by
  refine Cg.ofF (plainFor_of_name (by decide)) (Nat.le_of_ble_eq_true rfl) ?_
  intro p9 e9 s9 m9 b9 me9 c9 ls S hr hlk hl hw
  obtain ⟨hx, hb, hml, hown, hts⟩ := id S
  have hl : lv_has ls 1 [(0, .ref mo)] := hl
  refine lv_aload_n hx hb d_Mod_link_0 rfl (lv_at hl 0 rfl) ?_
  refine lv_bipush (v := 32) hx hb d_Mod_link_1 (by decide) ?_
  refine lv_aload_n hx hb d_Mod_link_3 rfl (lv_at hl 0 rfl) ?_
  refine q_get S hw ly_Mod 0 rfl rfl 1 (by decide) tb_5_44 rfl rfl d_Mod_link_4 ?_
  refine lv_bipush (v := 32) hx hb d_Mod_link_7 (by decide) ?_
  refine q_ialdN (k := 32) S hw 2 0 rfl rfl (by first | assumption | omega) (by decide) d_Mod_link_9 ?_
  refine lv_iconst (v := 4) hx hb d_Mod_link_10 (by decide) ?_
  refine lv_iadd hx hb d_Mod_link_11 ?_
  refine lv_bipush (v := 38) hx hb d_Mod_link_12 (by decide) ?_
  refine q_cg (q_runV (As := [.int (32 : Int32), .int (((Q 32).2.1) + (4 : Int32)), .int (38 : Int32)]) (rest := []) S (c_Mod_moved l D ti mo am Q w g rb rt rp ro ca va st tr th ha pk xx rd to 32 (by first | decide | omega) (((Q 32).2.1) + (4 : Int32)) 38 (by first | decide | omega)) (cw_v hts tb_5_218 k_Mod_moved rfl rfl ⟨by decide, by decide⟩) hw 0 rfl rfl rfl hl.1 rfl (Nat.le_of_ble_eq_true rfl) d_Mod_link_14 ⟨Nat.zero_le _, Nat.zero_le _⟩) hw (fun z hD => qD_same hD rfl) (fun z9 H locs hp9 hw => ?_)
  refine W.eq (g2 := F0 m9 17 ls []) rfl ?_
  have hw : Lv _ _ _ _ _ (RMW mo am ti (rSet Q 38 (cMvC (Q 32) (((Q 32).2.1) + (4 : Int32)))) w g rb rt rp ro ca va st tr th ha pk xx rd to) _ _ _ := hw
  refine lv_aload_n hx hb d_Mod_link_17 rfl (lv_at hl 0 rfl) ?_
  refine q_get S hw ly_Mod 0 rfl rfl 2 (by decide) tb_5_45 rfl rfl d_Mod_link_18 ?_
  refine lv_bipush (v := 38) hx hb d_Mod_link_21 (by decide) ?_
  refine lv_aload_n hx hb d_Mod_link_23 rfl (lv_at hl 0 rfl) ?_
  refine q_get S hw ly_Mod 0 rfl rfl 2 (by decide) tb_5_45 rfl rfl d_Mod_link_24 ?_
  refine lv_bipush (v := 38) hx hb d_Mod_link_27 (by decide) ?_
  refine q_ialdN (k := 38) S hw 3 0 rfl rfl (by first | assumption | omega) (by decide) d_Mod_link_29 ?_
  refine lv_bipush (v := 14) hx hb d_Mod_link_30 (by decide) ?_
  refine q_cr (q_runS (As := [.int (((rSet Q 38 (cMvC (Q 32) (((Q 32).2.1) + (4 : Int32)))) 38).2.2), .int (14 : Int32)]) (rest := [.int (38 : Int32), .ref (am 2)]) S ((c_Mod_withType l D (ty4 ti) (((rSet Q 38 (cMvC (Q 32) (((Q 32).2.1) + (4 : Int32)))) 38).2.2) (14 : Int32)).nil _) (cw_s hts tb_5_231 k_Mod_withType rfl rfl ⟨by decide, by decide⟩) hw rfl hl.1 rfl (Nat.le_of_ble_eq_true rfl) d_Mod_link_32 ⟨Nat.zero_le _, Nat.zero_le _⟩) ?_
  refine W.eq (g2 := F0 m9 35 ls [.int (cSetT (((rSet Q 38 (cMvC (Q 32) (((Q 32).2.1) + (4 : Int32)))) 38).2.2) (14 : Int32)), .int (38 : Int32), .ref (am 2)]) rfl ?_
  refine q_iastN (k := 38) S hw 3 0 rfl rfl (by first | assumption | omega) (by decide) d_Mod_link_35 (fun H locs hw => ?_)
  have hw : Lv _ _ _ _ _ (RMW mo am ti (va_up (rSet Q 38 (cMvC (Q 32) (((Q 32).2.1) + (4 : Int32)))) 38 (((rSet Q 38 (cMvC (Q 32) (((Q 32).2.1) + (4 : Int32)))) 38).1, ((rSet Q 38 (cMvC (Q 32) (((Q 32).2.1) + (4 : Int32)))) 38).2.1, (cSetT (((rSet Q 38 (cMvC (Q 32) (((Q 32).2.1) + (4 : Int32)))) 38).2.2) (14 : Int32)))) w g rb rt rp ro ca va st tr th ha pk xx rd to) _ _ _ := hw.same (RMW_m)
  exact hw.rv S hr hlk d_Mod_link_36 () (rfl) (trivial) (by rw [rS_c (r := 38) (by decide), up_up, va_up_self]; rfl)
