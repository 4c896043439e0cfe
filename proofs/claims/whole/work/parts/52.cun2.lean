/-! CapabilityUnit, second half. -/
def isP (x : Int32) : Bool := if nI (nR2 x) = 0 then (if nI (nR1 x) = 0 then true else false) else false
def spK (x : Int32) : Nat := if isP x = true then 32 else nR2 x + 5
def spR (R : Nat → Cap) (x : Int32) : Nat → Cap := if nI (nR1 x) = 0 then va_up R 37 (R (spK x)) else va_up (va_up R 37 (R (spK x))) (spK x) (R (nR1 x))
def xSp (fv : Int32) (R : Nat → Cap) (x : Int32) : OC :=
  if isP x = true then (-1, fv, aR (spR R x) (nRd x)) else if 28 ≤ nI (nR2 x) then (if cMay (R 32).2.2 10 = true then (-1, fv, aR (spR R x) (nRd x)) else (28, 32 * nI 32 + 24, R)) else (2, x, R)
def ivT (c d : Cap) : Bool := if c.1 = true then (if d.1 = true then true else false) else false
/-- what is wrong with an invocation: 0 = nothing; true: the second register's -/
def ivW (c d : Cap) : Bool × Int32 :=
  if c.1 = false then (false, 2) else if d.1 = false then (true, 2) else if 12 ≤ cType c.2.2 then (false, 3) else if 12 ≤ cType d.2.2 then (true, 3) else if cType c.2.2 = cType d.2.2 then
  (if cMay c.2.2 8 = false then (false, 25) else if cMay d.2.2 8 = false then (true, 25) else if cMay c.2.2 1 = false then (false, 17) else if cMay d.2.2 1 = true then (true, 17) else (false, 0)) else (false, 4)
def ivK (c d : Cap) (x : Int32) : Nat := if (ivW c d).1 = true then nR2 x else nR1 x
def ivF (fv : Int32) (R : Nat → Cap) (x : Int32) : Int32 × Int32 := if (ivW (R (nR1 x)) (R (nR2 x))).2 = 0 then (-1, fv) else (28, 32 * nI (ivK (R (nR1 x)) (R (nR2 x)) x) + (ivW (R (nR1 x)) (R (nR2 x))).2)
def ivX (R : Nat → Cap) (x : Int32) : Int32 := (R (nR1 x)).2.1 &&& (-2)
def ivR (R : Nat → Cap) (x : Int32) : Nat → Cap := aR (va_up (va_up R 32 (cMvC (cTyC (R (nR1 x)) 15) (ivX R x))) 37 (cTyC (R (nR2 x)) 15)) 31
def xIv (fv : Int32) (R : Nat → Cap) (x : Int32) : OC :=
  if (ivF fv R x).1 = -1 then (if cCov (cbase (R (nR1 x)).2.2 (R (nR1 x)).2.1) (ctop (R (nR1 x)).2.2 (R (nR1 x)).2.1) (ivX R x) 4 = true then (if (ivX R x &&& 3) = 0 then (-2, (ivF fv R x).2, ivR R x) else (0, ivX R x, R)) else (28, 32 * nI (nR1 x) + 1, R)) else ((ivF fv R x).1, (ivF fv R x).2, R)
def insV (c : Cap) (n : Int32) : Int32 :=
  if n = 0 then cPerms c.2.2 else if n = 1 then (if cType c.2.2 < 14 then cType c.2.2 else cType c.2.2 - 16) else if n = 2 then (cbase c.2.2 c.2.1).toInt32 else if n = 3 then cLen (cbase c.2.2 c.2.1) (ctop c.2.2 c.2.1) else if n = 4 then (if c.1 = false then 0 else 1)
  else if n = 5 then (if cOpen c.2.2 = false then 1 else 0) else if n = 6 then c.2.1 - (cbase c.2.2 c.2.1).toInt32 else if n = 8 then rpV c.2.1 false else if n = 9 then rpV c.2.1 true else if n = 15 then c.2.1 else cTold c.2.2
def isV (n : Int32) : Bool := n = 0 ∨ n = 1 ∨ n = 2 ∨ n = 3 ∨ n = 4 ∨ n = 5 ∨ n = 6 ∨ n = 8 ∨ n = 9 ∨ n = 15 ∨ n = 23
def xIn (fv : Int32) (R : Nat → Cap) (c : Cap) (x : Int32) : OC :=
  if isV (nI (nR2 x)) = true then (-1, fv, nR R (nRd x) (insV c (nI (nR2 x)))) else if nI (nR2 x) = 10 then (-1, fv, uR R c x) else if nI (nR2 x) = 11 then (-1, fv, uR R (false, c.2.1, c.2.2) x) else if nI (nR2 x) = 17 then (-1, fv, uR R (uEn c) x) else (2, x, R)
def eqV (c d : Cap) : Int32 := if c.1 = d.1 then (if cWC d c = false then 0 else 1) else 0
def xNb (fv : Int32) (R : Nat → Cap) (c d : Cap) (x : Int32) : OC :=
  if nI (nNb x) = 1 then xSp fv R x else if nI (nNb x) = 8 then (-1, fv, uR R (uBn c (cLow d.2.1) false) x) else if nI (nNb x) = 9 then (-1, fv, uR R (uBn c (cLow d.2.1) true) x)
  else if nI (nNb x) = 11 then (-1, fv, uR R (uSl c d) x) else if nI (nNb x) = 12 then (-1, fv, uR R (uUn c d) x) else if nI (nNb x) = 13 then (-1, fv, uR R (uAn c d.2.1) x)
  else if nI (nNb x) = 15 then (-1, fv, uR R (cMvC c ((cbase c.2.2 c.2.1).toInt32 + d.2.1)) x) else if nI (nNb x) = 16 then (-1, fv, uR R (cMvC c d.2.1) x) else if nI (nNb x) = 17 then (-1, fv, uR R (cMvC c (c.2.1 + d.2.1)) x)
  else if nI (nNb x) = 20 then (-1, fv, nR R (nRd x) (c.2.1 - d.2.1)) else if nI (nNb x) = 22 then (-1, fv, uR R (false, c.2.1, d.2.1 ^^^ 1000194) x) else if nI (nNb x) = 29 then (-1, fv, uR R (uBd c d) x)
  else if nI (nNb x) = 32 then (-1, fv, nR R (nRd x) (eqV c d)) else if nI (nNb x) = 126 then (if nI (nRd x) = 1 then xIv fv R x else (2, x, R)) else if nI (nNb x) = 127 then xIn fv R c x else (2, x, R)
def xU (fv : Int32) (R : Nat → Cap) (x : Int32) : OC :=
  if nI (nFn x) = 0 then xNb fv R (R (nR1 x)) (R (nR2 x)) x else if nI (nFn x) = 1 then (-1, fv, uR R (cMvC (R (nR1 x)) ((R (nR1 x)).2.1 + iIm x)) x) else if nI (nFn x) = 2 then (-1, fv, uR R (uBn (R (nR1 x)) (iIm x &&& 4095).toInt64 false) x) else (2, x, R)
theorem ge28 : ∀ n, n < 32 → 28 ≤ nI n → 28 ≤ n := by decide +kernel
theorem add5 : ∀ n, n < 32 → nI n - 28 + 33 = nI (n + 5) := by decide +kernel
set_option maxHeartbeats 4000000 in
set_option maxRecDepth 100000 in
theorem c_Cun_special (l : Launch) (D : va_G) (ti : Nat → ClassId) (ad : Nat → Nat) (u : MT) (pi ex de : Nat) (xi xb di db fi fb : Int32) (ob reg : Nat → Nat) (kq : Int32 × Bool × Bool × Int32 × Int64) (ca va fv : Int32) (R : Nat → Cap) : Cg l y_Cun_special (wl y_Cun_special b_Cun_special 5 (some .int)) (rmL 2) D clz (ty4 ti) [.ref (ob 3), .ref ex, .ref (reg (nR1 xb))] (CW ad ti u pi ex de xi xb di db fi fb ob reg kq ca va fv R) (fun _ : Unit => some (.int (xSp fv R xb).1)) (fun _ => (CW ad ti u pi ex de xi xb di db fi fb ob reg kq ca va ((xSp fv R xb).2.1) ((xSp fv R xb).2.2))) (fun _ => True) := by
  refine Cg.ofF (plainFor_of_name (by decide)) (Nat.le_of_ble_eq_true rfl) ?_
  intro p9 e9 s9 m9 b9 me9 c9 ls S hr hlk hl hw
  obtain ⟨hx, hb, hml, hown, hts⟩ := id S
  have hl : lv_has ls 5 [(0, .ref (ob 3)), (1, .ref ex), (2, .ref (reg (nR1 xb)))] := hl
  have hr1 := nR1_lt xb
  have hr2 := nR2_lt xb
  have hrd := nRd_lt xb
  refine q_join (pcJ := 19) (st := [.int (jb (isP xb))]) (lv' := [(0, .ref (ob 3)), (1, .ref ex), (2, .ref (reg (nR1 xb)))]) (nL := 5) (fun ls hl => ?_) (fun J19 => ?_)
  · refine lv_istore_n (lv' := [(3, .int (jb (isP xb))), (0, .ref (ob 3)), (1, .ref ex), (2, .ref (reg (nR1 xb)))]) hx hb d_Cun_special_19 rfl hl (by decide) rfl (fun ls hl => ?_)
    refine lv_iload_n hx hb d_Cun_special_20 rfl (lv_at hl 0 rfl) ?_
    refine q_ifz_ne S d_Cun_special_21 rfl (fun h21 => ?_) (fun h21 => ?_)
    · refine lv_iload_n hx hb d_Cun_special_42 rfl (lv_at hl 0 rfl) ?_
      refine q_ifz_ne S d_Cun_special_43 rfl (fun h43 => ?_) (fun h43 => ?_)
      · refine lv_aload_n hx hb d_Cun_special_73 rfl (lv_at hl 1 rfl) ?_
        refine q_get S hw ly_Cun 19 rfl rfl 0 (by decide) tb_2_56 rfl rfl d_Cun_special_74 ?_
        refine q_get S hw ly_Sta 16 rfl rfl 0 (by decide) tb_1_207 rfl rfl d_Cun_special_77 ?_
        refine lv_iload_n hx hb d_Cun_special_80 rfl (lv_at hl 0 rfl) ?_
        refine q_ifz_eq S d_Cun_special_81 rfl (fun h81 => ?_) (fun h81 => ?_)
        · rw [h21] at h81
          exact absurd h81 (by decide)
        · refine lv_bipush (v := 32) hx hb d_Cun_special_84 (by decide) ?_
          refine lv_goto hx hb d_Cun_special_86 rfl ?_
          refine q_aaldN (k := 32) S hw 17 3 rfl rfl (by first | assumption | omega) (by decide) d_Cun_special_99 ?_
          refine lv_astore (lv' := [(4, .ref (reg 32)), (3, .int (jb (isP xb))), (0, .ref (ob 3)), (1, .ref ex), (2, .ref (reg (nR1 xb)))]) hx hb d_Cun_special_100 hl (by decide) rfl (fun ls hl => ?_)
          refine lv_aload_n hx hb d_Cun_special_102 rfl (lv_at hl 2 rfl) ?_
          refine q_get S hw ly_Cun 19 rfl rfl 0 (by decide) tb_2_56 rfl rfl d_Cun_special_103 ?_
          refine q_get S hw ly_Sta 16 rfl rfl 2 (by decide) tb_1_216 rfl rfl d_Cun_special_106 ?_
          refine lv_aload hx hb d_Cun_special_109 (lv_at hl 0 rfl) ?_
          refine q_cg (q_runV (As := [.ref (reg 32)]) (rest := []) S (w_become l D ti ad u pi ex de xi xb di db fi fb ob reg kq ca va fv R (37) (by first | decide | omega) (32) (by first | decide | omega) (by first | decide | omega)) (cw_v hts tb_3_226 k_Cap_become rfl rfl ⟨by decide, by decide⟩) hw (21 + (37)) (CW_at (by first | decide | omega)) rfl rfl hl.1 rfl (Nat.le_of_ble_eq_true rfl) d_Cun_special_111 ⟨Nat.zero_le _, Nat.zero_le _⟩) hw (fun z hD => CW_D hD) (fun z9 H locs hp9 hw => ?_)
          refine W.eq (g2 := F0 m9 114 ls []) rfl ?_
          have hw : Lv _ _ _ _ _ (CW ad ti u pi ex de xi xb di db fi fb ob reg kq ca va fv (va_up R (37) (R 32))) _ _ _ := hw
          refine lv_aload_n hx hb d_Cun_special_114 rfl (lv_at hl 3 rfl) ?_
          refine q_get S hw ly_Ins 14 rfl rfl 5 (by decide) tb_1_159 rfl rfl d_Cun_special_115 ?_
          refine lv_if_eq hx hb d_Cun_special_118 rfl (fun h118 => ?_) (fun h118 => ?_)
          · refine lv_aload_n hx hb d_Cun_special_127 rfl (lv_at hl 2 rfl) ?_
            refine q_get S hw ly_Cun 19 rfl rfl 0 (by decide) tb_2_56 rfl rfl d_Cun_special_128 ?_
            refine lv_aload_n hx hb d_Cun_special_131 rfl (lv_at hl 3 rfl) ?_
            refine q_get S hw ly_Ins 14 rfl rfl 3 (by decide) tb_1_155 rfl rfl d_Cun_special_132 ?_
            refine q_cg (q_runV (As := [.int (nI (nRd xb))]) (rest := []) S (c_Sta_answer l D ti ad u pi ex de xi xb di db fi fb ob reg kq ca va fv (va_up R (37) (R 32)) (nRd xb) (by first | decide | omega)) (cw_v hts tb_3_227 k_Sta_answer rfl rfl ⟨by decide, by decide⟩) hw 16 rfl rfl rfl hl.1 rfl (Nat.le_of_ble_eq_true rfl) d_Cun_special_135 ⟨Nat.zero_le _, Nat.zero_le _⟩) hw (fun z hD => CW_D (qD_same hD rfl)) (fun z9 H locs hp9 hw => ?_)
            refine W.eq (g2 := F0 m9 138 ls [.int (-1 : Int32)]) rfl ?_
            have hw : Lv _ _ _ _ _ (CW ad ti u pi ex de xi xb di db fi fb ob reg kq ca va fv (aR (va_up R (37) (R 32)) (nRd xb))) _ _ _ := hw
            exact hw.riz S hr hlk (rfl) d_Cun_special_138 () (by unfold xSp; rw [if_pos h21]) (trivial) (by unfold xSp; rw [if_pos h21]; unfold spR spK; rw [if_pos h21, if_pos h118])
          · refine lv_aload hx hb d_Cun_special_121 (lv_at hl 0 rfl) ?_
            refine lv_aload_n hx hb d_Cun_special_123 rfl (lv_at hl 4 rfl) ?_
            refine q_cg (q_runV (As := [.ref (reg (nR1 xb))]) (rest := []) S (w_become l D ti ad u pi ex de xi xb di db fi fb ob reg kq ca va fv (va_up R (37) (R 32)) (32) (by first | decide | omega) (nR1 xb) (by first | decide | omega) (by first | decide | omega)) (cw_v hts tb_3_226 k_Cap_become rfl rfl ⟨by decide, by decide⟩) hw (21 + (32)) (CW_at (by first | decide | omega)) rfl rfl hl.1 rfl (Nat.le_of_ble_eq_true rfl) d_Cun_special_124 ⟨Nat.zero_le _, Nat.zero_le _⟩) hw (fun z hD => CW_D hD) (fun z9 H locs hp9 hw => ?_)
            refine W.eq (g2 := F0 m9 127 ls []) rfl ?_
            have hw : Lv _ _ _ _ _ (CW ad ti u pi ex de xi xb di db fi fb ob reg kq ca va fv (va_up (va_up R (37) (R 32)) (32) ((va_up R (37) (R 32)) (nR1 xb)))) _ _ _ := hw
            refine lv_aload_n hx hb d_Cun_special_127 rfl (lv_at hl 2 rfl) ?_
            refine q_get S hw ly_Cun 19 rfl rfl 0 (by decide) tb_2_56 rfl rfl d_Cun_special_128 ?_
            refine lv_aload_n hx hb d_Cun_special_131 rfl (lv_at hl 3 rfl) ?_
            refine q_get S hw ly_Ins 14 rfl rfl 3 (by decide) tb_1_155 rfl rfl d_Cun_special_132 ?_
            refine q_cg (q_runV (As := [.int (nI (nRd xb))]) (rest := []) S (c_Sta_answer l D ti ad u pi ex de xi xb di db fi fb ob reg kq ca va fv (va_up (va_up R (37) (R 32)) (32) ((va_up R (37) (R 32)) (nR1 xb))) (nRd xb) (by first | decide | omega)) (cw_v hts tb_3_227 k_Sta_answer rfl rfl ⟨by decide, by decide⟩) hw 16 rfl rfl rfl hl.1 rfl (Nat.le_of_ble_eq_true rfl) d_Cun_special_135 ⟨Nat.zero_le _, Nat.zero_le _⟩) hw (fun z hD => CW_D (qD_same hD rfl)) (fun z9 H locs hp9 hw => ?_)
            refine W.eq (g2 := F0 m9 138 ls [.int (-1 : Int32)]) rfl ?_
            have hw : Lv _ _ _ _ _ (CW ad ti u pi ex de xi xb di db fi fb ob reg kq ca va fv (aR (va_up (va_up R (37) (R 32)) (32) ((va_up R (37) (R 32)) (nR1 xb))) (nRd xb))) _ _ _ := hw
            exact hw.riz S hr hlk (rfl) d_Cun_special_138 () (by unfold xSp; rw [if_pos h21]) (trivial) (by unfold xSp; rw [if_pos h21]; unfold spR spK; rw [if_pos h21, if_neg h118]; rw [va_up_ne _ _ (show nR1 xb ≠ 37 by omega)])
      · rw [h21] at h43
        exact absurd h43 (by decide)
    · refine lv_aload_n hx hb d_Cun_special_24 rfl (lv_at hl 2 rfl) ?_
      refine q_get S hw ly_Ins 14 rfl rfl 6 (by decide) tb_1_162 rfl rfl d_Cun_special_25 ?_
      refine lv_bipush (v := 28) hx hb d_Cun_special_28 (by decide) ?_
      refine lv_icmp_ge hx hb d_Cun_special_30 rfl (fun h30 => ?_) (fun h30 => ?_)
      · refine lv_iload_n hx hb d_Cun_special_42 rfl (lv_at hl 0 rfl) ?_
        refine q_ifz_ne S d_Cun_special_43 rfl (fun h43 => ?_) (fun h43 => ?_)
        · rw [h21] at h43
          exact absurd h43 (by decide)
        · refine lv_aload_n hx hb d_Cun_special_46 rfl (lv_at hl 1 rfl) ?_
          refine q_get S hw ly_Cun 19 rfl rfl 0 (by decide) tb_2_56 rfl rfl d_Cun_special_47 ?_
          refine q_get S hw ly_Sta 16 rfl rfl 1 (by decide) tb_1_212 rfl rfl d_Cun_special_50 ?_
          refine lv_bipush (v := 10) hx hb d_Cun_special_53 (by decide) ?_
          refine q_cr (q_runV (As := [.int (10 : Int32)]) (rest := []) S (w_may l D ti ad u pi ex de xi xb di db fi fb ob reg kq ca va fv R (32) (by first | decide | omega) (10 : Int32)) (cw_v hts tb_3_224 k_Cap_may rfl rfl ⟨by decide, by decide⟩) hw (21 + (32)) (CW_at (by first | decide | omega)) rfl rfl hl.1 rfl (Nat.le_of_ble_eq_true rfl) d_Cun_special_55 ⟨Nat.zero_le _, Nat.zero_le _⟩) ?_
          refine W.eq (g2 := F0 m9 58 ls [.int (jb (cMay (R 32).2.2 (10 : Int32)))]) rfl ?_
          refine q_ifz_ne S d_Cun_special_58 rfl (fun h58 => ?_) (fun h58 => ?_)
          · have h28 := ge28 (nR2 xb) hr2 h30
            refine lv_aload_n hx hb d_Cun_special_73 rfl (lv_at hl 1 rfl) ?_
            refine q_get S hw ly_Cun 19 rfl rfl 0 (by decide) tb_2_56 rfl rfl d_Cun_special_74 ?_
            refine q_get S hw ly_Sta 16 rfl rfl 0 (by decide) tb_1_207 rfl rfl d_Cun_special_77 ?_
            refine lv_iload_n hx hb d_Cun_special_80 rfl (lv_at hl 0 rfl) ?_
            refine q_ifz_eq S d_Cun_special_81 rfl (fun h81 => ?_) (fun h81 => ?_)
            · refine lv_aload_n hx hb d_Cun_special_89 rfl (lv_at hl 2 rfl) ?_
              refine q_get S hw ly_Ins 14 rfl rfl 6 (by decide) tb_1_162 rfl rfl d_Cun_special_90 ?_
              refine lv_bipush (v := 28) hx hb d_Cun_special_93 (by decide) ?_
              refine lv_isub hx hb d_Cun_special_95 ?_
              refine lv_bipush (v := 33) hx hb d_Cun_special_96 (by decide) ?_
              refine lv_iadd hx hb d_Cun_special_98 ?_
              refine q_topi (z := (nI (nR2 xb + 5))) (add5 (nR2 xb) hr2) ?_
              refine q_aaldN (k := nR2 xb + 5) S hw 17 3 rfl rfl (by first | assumption | omega) (by decide) d_Cun_special_99 ?_
              refine lv_astore (lv' := [(4, .ref (reg (nR2 xb + 5))), (3, .int (jb (isP xb))), (0, .ref (ob 3)), (1, .ref ex), (2, .ref (reg (nR1 xb)))]) hx hb d_Cun_special_100 hl (by decide) rfl (fun ls hl => ?_)
              refine lv_aload_n hx hb d_Cun_special_102 rfl (lv_at hl 2 rfl) ?_
              refine q_get S hw ly_Cun 19 rfl rfl 0 (by decide) tb_2_56 rfl rfl d_Cun_special_103 ?_
              refine q_get S hw ly_Sta 16 rfl rfl 2 (by decide) tb_1_216 rfl rfl d_Cun_special_106 ?_
              refine lv_aload hx hb d_Cun_special_109 (lv_at hl 0 rfl) ?_
              refine q_cg (q_runV (As := [.ref (reg (nR2 xb + 5))]) (rest := []) S (w_become l D ti ad u pi ex de xi xb di db fi fb ob reg kq ca va fv R (37) (by first | decide | omega) (nR2 xb + 5) (by first | decide | omega) (by first | decide | omega)) (cw_v hts tb_3_226 k_Cap_become rfl rfl ⟨by decide, by decide⟩) hw (21 + (37)) (CW_at (by first | decide | omega)) rfl rfl hl.1 rfl (Nat.le_of_ble_eq_true rfl) d_Cun_special_111 ⟨Nat.zero_le _, Nat.zero_le _⟩) hw (fun z hD => CW_D hD) (fun z9 H locs hp9 hw => ?_)
              refine W.eq (g2 := F0 m9 114 ls []) rfl ?_
              have hw : Lv _ _ _ _ _ (CW ad ti u pi ex de xi xb di db fi fb ob reg kq ca va fv (va_up R (37) (R (nR2 xb + 5)))) _ _ _ := hw
              refine lv_aload_n hx hb d_Cun_special_114 rfl (lv_at hl 3 rfl) ?_
              refine q_get S hw ly_Ins 14 rfl rfl 5 (by decide) tb_1_159 rfl rfl d_Cun_special_115 ?_
              refine lv_if_eq hx hb d_Cun_special_118 rfl (fun h118 => ?_) (fun h118 => ?_)
              · refine lv_aload_n hx hb d_Cun_special_127 rfl (lv_at hl 2 rfl) ?_
                refine q_get S hw ly_Cun 19 rfl rfl 0 (by decide) tb_2_56 rfl rfl d_Cun_special_128 ?_
                refine lv_aload_n hx hb d_Cun_special_131 rfl (lv_at hl 3 rfl) ?_
                refine q_get S hw ly_Ins 14 rfl rfl 3 (by decide) tb_1_155 rfl rfl d_Cun_special_132 ?_
                refine q_cg (q_runV (As := [.int (nI (nRd xb))]) (rest := []) S (c_Sta_answer l D ti ad u pi ex de xi xb di db fi fb ob reg kq ca va fv (va_up R (37) (R (nR2 xb + 5))) (nRd xb) (by first | decide | omega)) (cw_v hts tb_3_227 k_Sta_answer rfl rfl ⟨by decide, by decide⟩) hw 16 rfl rfl rfl hl.1 rfl (Nat.le_of_ble_eq_true rfl) d_Cun_special_135 ⟨Nat.zero_le _, Nat.zero_le _⟩) hw (fun z hD => CW_D (qD_same hD rfl)) (fun z9 H locs hp9 hw => ?_)
                refine W.eq (g2 := F0 m9 138 ls [.int (-1 : Int32)]) rfl ?_
                have hw : Lv _ _ _ _ _ (CW ad ti u pi ex de xi xb di db fi fb ob reg kq ca va fv (aR (va_up R (37) (R (nR2 xb + 5))) (nRd xb))) _ _ _ := hw
                exact hw.riz S hr hlk (rfl) d_Cun_special_138 () (by unfold xSp; rw [if_neg (show ¬ isP xb = true by rw [h21]; decide), if_pos h30, if_pos h58]) (trivial) (by unfold xSp; rw [if_neg (show ¬ isP xb = true by rw [h21]; decide), if_pos h30, if_pos h58]; unfold spR spK; rw [if_neg (show ¬ isP xb = true by rw [h21]; decide), if_pos h118])
              · refine lv_aload hx hb d_Cun_special_121 (lv_at hl 0 rfl) ?_
                refine lv_aload_n hx hb d_Cun_special_123 rfl (lv_at hl 4 rfl) ?_
                refine q_cg (q_runV (As := [.ref (reg (nR1 xb))]) (rest := []) S (w_become l D ti ad u pi ex de xi xb di db fi fb ob reg kq ca va fv (va_up R (37) (R (nR2 xb + 5))) (nR2 xb + 5) (by first | decide | omega) (nR1 xb) (by first | decide | omega) (by first | decide | omega)) (cw_v hts tb_3_226 k_Cap_become rfl rfl ⟨by decide, by decide⟩) hw (21 + (nR2 xb + 5)) (CW_at (by first | decide | omega)) rfl rfl hl.1 rfl (Nat.le_of_ble_eq_true rfl) d_Cun_special_124 ⟨Nat.zero_le _, Nat.zero_le _⟩) hw (fun z hD => CW_D hD) (fun z9 H locs hp9 hw => ?_)
                refine W.eq (g2 := F0 m9 127 ls []) rfl ?_
                have hw : Lv _ _ _ _ _ (CW ad ti u pi ex de xi xb di db fi fb ob reg kq ca va fv (va_up (va_up R (37) (R (nR2 xb + 5))) (nR2 xb + 5) ((va_up R (37) (R (nR2 xb + 5))) (nR1 xb)))) _ _ _ := hw
                refine lv_aload_n hx hb d_Cun_special_127 rfl (lv_at hl 2 rfl) ?_
                refine q_get S hw ly_Cun 19 rfl rfl 0 (by decide) tb_2_56 rfl rfl d_Cun_special_128 ?_
                refine lv_aload_n hx hb d_Cun_special_131 rfl (lv_at hl 3 rfl) ?_
                refine q_get S hw ly_Ins 14 rfl rfl 3 (by decide) tb_1_155 rfl rfl d_Cun_special_132 ?_
                refine q_cg (q_runV (As := [.int (nI (nRd xb))]) (rest := []) S (c_Sta_answer l D ti ad u pi ex de xi xb di db fi fb ob reg kq ca va fv (va_up (va_up R (37) (R (nR2 xb + 5))) (nR2 xb + 5) ((va_up R (37) (R (nR2 xb + 5))) (nR1 xb))) (nRd xb) (by first | decide | omega)) (cw_v hts tb_3_227 k_Sta_answer rfl rfl ⟨by decide, by decide⟩) hw 16 rfl rfl rfl hl.1 rfl (Nat.le_of_ble_eq_true rfl) d_Cun_special_135 ⟨Nat.zero_le _, Nat.zero_le _⟩) hw (fun z hD => CW_D (qD_same hD rfl)) (fun z9 H locs hp9 hw => ?_)
                refine W.eq (g2 := F0 m9 138 ls [.int (-1 : Int32)]) rfl ?_
                have hw : Lv _ _ _ _ _ (CW ad ti u pi ex de xi xb di db fi fb ob reg kq ca va fv (aR (va_up (va_up R (37) (R (nR2 xb + 5))) (nR2 xb + 5) ((va_up R (37) (R (nR2 xb + 5))) (nR1 xb))) (nRd xb))) _ _ _ := hw
                exact hw.riz S hr hlk (rfl) d_Cun_special_138 () (by unfold xSp; rw [if_neg (show ¬ isP xb = true by rw [h21]; decide), if_pos h30, if_pos h58]) (trivial) (by unfold xSp; rw [if_neg (show ¬ isP xb = true by rw [h21]; decide), if_pos h30, if_pos h58]; unfold spR spK; rw [if_neg (show ¬ isP xb = true by rw [h21]; decide), if_neg h118]; rw [va_up_ne _ _ (show nR1 xb ≠ 37 by omega)])
            · rw [h21] at h81
              exact absurd h81 (by decide)
          · refine lv_aload_n hx hb d_Cun_special_61 rfl (lv_at hl 1 rfl) ?_
            refine q_get S hw ly_Cun 19 rfl rfl 0 (by decide) tb_2_56 rfl rfl d_Cun_special_62 ?_
            refine lv_bipush (v := 32) hx hb d_Cun_special_65 (by decide) ?_
            refine lv_bipush (v := 24) hx hb d_Cun_special_67 (by decide) ?_
            refine q_cg (q_runV (As := [.int (32 : Int32), .int (24 : Int32)]) (rest := []) S (c_Sta_capabilityFault l D ti ad u pi ex de xi xb di db fi fb ob reg kq ca va fv R 32 (24 : Int32)) (cw_v hts tb_3_225 k_Sta_capabilityFault rfl rfl ⟨by decide, by decide⟩) hw 16 rfl rfl rfl hl.1 rfl (Nat.le_of_ble_eq_true rfl) d_Cun_special_69 ⟨Nat.zero_le _, Nat.zero_le _⟩) hw (fun z hD => qD_same hD rfl) (fun z9 H locs hp9 hw => ?_)
            refine W.eq (g2 := F0 m9 72 ls [.int (28 : Int32)]) rfl ?_
            have hw : Lv _ _ _ _ _ (CW ad ti u pi ex de xi xb di db fi fb ob reg kq ca va (32 * nI 32 + (24 : Int32)) R) _ _ _ := hw
            exact hw.riz S hr hlk (rfl) d_Cun_special_72 () (by unfold xSp; rw [if_neg (show ¬ isP xb = true by rw [h21]; decide), if_pos h30, if_neg (by rw [h58]; decide)]) (trivial) (by unfold xSp; rw [if_neg (show ¬ isP xb = true by rw [h21]; decide), if_pos h30, if_neg (by rw [h58]; decide)])
      · refine lv_aload_n hx hb d_Cun_special_33 rfl (lv_at hl 1 rfl) ?_
        refine q_get S hw ly_Cun 19 rfl rfl 0 (by decide) tb_2_56 rfl rfl d_Cun_special_34 ?_
        refine lv_aload_n hx hb d_Cun_special_37 rfl (lv_at hl 2 rfl) ?_
        refine q_cg (q_runV (As := [.ref ex]) (rest := []) S (c_Sta_illegal l D ti ad u pi ex de xi xb di db fi fb ob reg kq ca va fv R) (cw_v hts tb_3_220 k_Sta_illegal rfl rfl ⟨by decide, by decide⟩) hw 16 rfl rfl rfl hl.1 rfl (Nat.le_of_ble_eq_true rfl) d_Cun_special_38 ⟨Nat.zero_le _, Nat.zero_le _⟩) hw (fun z hD => qD_same hD rfl) (fun z9 H locs hp9 hw => ?_)
        refine W.eq (g2 := F0 m9 41 ls [.int (2 : Int32)]) rfl ?_
        have hw : Lv _ _ _ _ _ (CW ad ti u pi ex de xi xb di db fi fb ob reg kq ca va xb R) _ _ _ := hw
        exact hw.riz S hr hlk (rfl) d_Cun_special_41 () (by unfold xSp; rw [if_neg (show ¬ isP xb = true by rw [h21]; decide), if_neg h30]) (trivial) (by unfold xSp; rw [if_neg (show ¬ isP xb = true by rw [h21]; decide), if_neg h30])
  · refine lv_aload_n hx hb d_Cun_special_0 rfl (lv_at hl 1 rfl) ?_
    refine q_get S hw ly_Ins 14 rfl rfl 6 (by decide) tb_1_162 rfl rfl d_Cun_special_1 ?_
    refine lv_if_ne hx hb d_Cun_special_4 rfl (fun h4 => ?_) (fun h4 => ?_)
    · refine lv_iconst (v := 0) hx hb d_Cun_special_18 (by decide) ?_
      refine q_topi (z := (jb (isP xb))) (by simp [isP, jb, h4]) ?_
      exact J19 _ (lv_sub (l' := [(0, .ref (ob 3)), (1, .ref ex), (2, .ref (reg (nR1 xb)))]) hl [0, 1, 2] rfl)
    · refine lv_aload_n hx hb d_Cun_special_7 rfl (lv_at hl 1 rfl) ?_
      refine q_get S hw ly_Ins 14 rfl rfl 5 (by decide) tb_1_159 rfl rfl d_Cun_special_8 ?_
      refine lv_if_ne hx hb d_Cun_special_11 rfl (fun h11 => ?_) (fun h11 => ?_)
      · refine lv_iconst (v := 0) hx hb d_Cun_special_18 (by decide) ?_
        refine q_topi (z := (jb (isP xb))) (by simp [isP, jb, h4, h11]) ?_
        exact J19 _ (lv_sub (l' := [(0, .ref (ob 3)), (1, .ref ex), (2, .ref (reg (nR1 xb)))]) hl [0, 1, 2] rfl)
      · refine lv_iconst (v := 1) hx hb d_Cun_special_14 (by decide) ?_
        refine lv_goto hx hb d_Cun_special_15 rfl ?_
        refine q_topi (z := (jb (isP xb))) (by simp [isP, jb, h4, h11]) ?_
        exact J19 _ (lv_sub (l' := [(0, .ref (ob 3)), (1, .ref ex), (2, .ref (reg (nR1 xb)))]) hl [0, 1, 2] rfl)
set_option maxHeartbeats 4000000 in
set_option maxRecDepth 100000 in
theorem c_Cun_bounded (l : Launch) (D : va_G) (ti : Nat → ClassId) (ad : Nat → Nat) (u : MT) (pi ex de : Nat) (xi xb di db fi fb : Int32) (ob reg : Nat → Nat) (kq : Int32 × Bool × Bool × Int32 × Int64) (ca va fv : Int32) (R : Nat → Cap) (k : Nat) (hk : k < 37) (n : Int64) (x : Bool) : Cg l y_Cun_bounded (wl y_Cun_bounded b_Cun_bounded 9 (some .int)) (rmL 3) D clz (ty4 ti) [.ref (ob 3), .ref ex, .ref (reg k), .long n, .int (jb x)] (CW ad ti u pi ex de xi xb di db fi fb ob reg kq ca va fv R) (fun _ : Unit => some (.int (-1))) (fun _ => (CW ad ti u pi ex de xi xb di db fi fb ob reg (kQ (bF (R k)) (bTo (R k) n)) ca va fv (uR R (uBn (R k) n x) xb))) (fun _ => True) := by
  refine Cg.ofF (plainFor_of_name (by decide)) (Nat.le_of_ble_eq_true rfl) ?_
  intro p9 e9 s9 m9 b9 me9 c9 ls S hr hlk hl hw
  obtain ⟨hx, hb, hml, hown, hts⟩ := id S
  have hl : lv_has ls 9 [(0, .ref (ob 3)), (1, .ref ex), (2, .ref (reg k)), (3, .long n), (5, .int (jb x))] := hl
  have hr1 := nR1_lt xb
  have hr2 := nR2_lt xb
  have hrd := nRd_lt xb
  have hk37 : k ≠ 37 := by omega
  refine lv_aload_n hx hb d_Cun_bounded_0 rfl (lv_at hl 2 rfl) ?_
  refine q_get S hw ly_Cap (21 + (k)) (CW_at (by first | decide | omega)) rfl 1 (by decide) tb_1_51 rfl rfl d_Cun_bounded_1 ?_
  refine lv_i2l (v := (((R k).2.1).toInt64)) hx hb d_Cun_bounded_4 rfl ?_
  refine lv_ldc2 (v := 4294967295) hx hb hown (hts _ tb_3_232) d_Cun_bounded_5 ?_
  refine lv_land hx hb d_Cun_bounded_8 ?_
  refine q_topl (z := (bF (R k))) (rfl) ?_
  refine lv_lstore (lv' := [(6, .long (bF (R k))), (0, .ref (ob 3)), (1, .ref ex), (2, .ref (reg k)), (3, .long n), (5, .int (jb x))]) hx hb d_Cun_bounded_9 hl (by decide) rfl (fun ls hl => ?_)
  refine lv_aload_n hx hb d_Cun_bounded_11 rfl (lv_at hl 1 rfl) ?_
  refine q_get S hw ly_Cun 19 rfl rfl 1 (by decide) tb_2_57 rfl rfl d_Cun_bounded_12 ?_
  refine lv_lload hx hb d_Cun_bounded_15 (lv_at hl 0 rfl) ?_
  refine lv_lload hx hb d_Cun_bounded_17 (lv_at hl 0 rfl) ?_
  refine lv_lload_n hx hb d_Cun_bounded_19 rfl (lv_at hl 4 rfl) ?_
  refine lv_ladd hx hb d_Cun_bounded_20 ?_
  refine lv_ldc2 (v := 4294967296) hx hb hown (hts _ tb_3_237) d_Cun_bounded_21 ?_
  refine q_cr (q_runS (As := [.long ((bF (R k)) + n), .long (4294967296 : Int64)]) (rest := [.long (bF (R k)), .ref (ob 4)]) S ((c_Math_minL l D (ty4 ti) ((bF (R k)) + n) (4294967296 : Int64)).nil _) (cw_s hts tb_3_238 k_Math_minL rfl rfl ⟨by decide, by decide⟩) hw rfl hl.1 rfl (Nat.le_of_ble_eq_true rfl) d_Cun_bounded_24 ⟨Nat.zero_le _, Nat.zero_le _⟩) ?_
  refine W.eq (g2 := F0 m9 27 ls [.long (lmin ((bF (R k)) + n) (4294967296 : Int64)), .long (bF (R k)), .ref (ob 4)]) rfl ?_
  refine q_topl (z := (bTo (R k) n)) (rfl) ?_
  refine q_cg (q_runV (As := [.long (bF (R k)), .long (bTo (R k) n)]) (rest := []) S (Cg.one (c_Pk_fit l D (ty4 ti) (ob 4) kq.1 kq.2.1 kq.2.2.1 kq.2.2.2.1 kq.2.2.2.2 (bF (R k)) (bTo (R k) n)) 20 rfl) (cw_v hts tb_4_1 k_Pk_fit rfl rfl ⟨by decide, by decide⟩) hw 20 rfl rfl rfl hl.1 rfl (Nat.le_of_ble_eq_true rfl) d_Cun_bounded_27 ⟨Nat.zero_le _, Nat.zero_le _⟩) hw (fun z hD => hD.set rfl) (fun z9 H locs hp9 hw => ?_)
  refine W.eq (g2 := F0 m9 30 ls []) rfl ?_
  have hw : Lv _ _ _ _ _ (CW ad ti u pi ex de xi xb di db fi fb ob reg (kQ (bF (R k)) (bTo (R k) n)) ca va fv R) _ _ _ := hw
  refine q_join (pcJ := 72) (st := [.int (jb (kBn (R k) n))]) (lv' := [(6, .long (bF (R k))), (0, .ref (ob 3)), (1, .ref ex), (2, .ref (reg k)), (3, .long n), (5, .int (jb x))]) (nL := 9) (fun ls hl => ?_) (fun J72 => ?_)
  · refine lv_istore (lv' := [(8, .int (jb (kBn (R k) n))), (6, .long (bF (R k))), (0, .ref (ob 3)), (1, .ref ex), (2, .ref (reg k)), (3, .long n), (5, .int (jb x))]) hx hb d_Cun_bounded_72 hl (by decide) rfl (fun ls hl => ?_)
    refine lv_aload_n hx hb d_Cun_bounded_74 rfl (lv_at hl 2 rfl) ?_
    refine q_get S hw ly_Cun 19 rfl rfl 0 (by decide) tb_2_56 rfl rfl d_Cun_bounded_75 ?_
    refine q_get S hw ly_Sta 16 rfl rfl 2 (by decide) tb_1_216 rfl rfl d_Cun_bounded_78 ?_
    refine lv_aload_n hx hb d_Cun_bounded_81 rfl (lv_at hl 4 rfl) ?_
    refine q_cg (q_runV (As := [.ref (reg k)]) (rest := []) S (w_become l D ti ad u pi ex de xi xb di db fi fb ob reg (kQ (bF (R k)) (bTo (R k) n)) ca va fv R (37) (by first | decide | omega) (k) (by first | decide | omega) (by first | decide | omega)) (cw_v hts tb_3_226 k_Cap_become rfl rfl ⟨by decide, by decide⟩) hw (21 + (37)) (CW_at (by first | decide | omega)) rfl rfl hl.1 rfl (Nat.le_of_ble_eq_true rfl) d_Cun_bounded_82 ⟨Nat.zero_le _, Nat.zero_le _⟩) hw (fun z hD => CW_D hD) (fun z9 H locs hp9 hw => ?_)
    refine W.eq (g2 := F0 m9 85 ls []) rfl ?_
    have hw : Lv _ _ _ _ _ (CW ad ti u pi ex de xi xb di db fi fb ob reg (kQ (bF (R k)) (bTo (R k) n)) ca va fv (va_up R (37) (R k))) _ _ _ := hw
    refine lv_aload_n hx hb d_Cun_bounded_85 rfl (lv_at hl 2 rfl) ?_
    refine q_get S hw ly_Cun 19 rfl rfl 0 (by decide) tb_2_56 rfl rfl d_Cun_bounded_86 ?_
    refine q_get S hw ly_Sta 16 rfl rfl 2 (by decide) tb_1_216 rfl rfl d_Cun_bounded_89 ?_
    refine lv_aload_n hx hb d_Cun_bounded_92 rfl (lv_at hl 2 rfl) ?_
    refine q_get S hw ly_Cun 19 rfl rfl 1 (by decide) tb_2_57 rfl rfl d_Cun_bounded_93 ?_
    refine q_get S hw ly_Pk 20 rfl rfl 0 (by decide) tb_2_35 rfl rfl d_Cun_bounded_96 ?_
    refine q_cg (q_runV (As := [.int ((kQ (bF (R k)) (bTo (R k) n)).1)]) (rest := []) S (w_setBounds l D ti ad u pi ex de xi xb di db fi fb ob reg (kQ (bF (R k)) (bTo (R k) n)) ca va fv (va_up R (37) (R k)) (37) (by first | decide | omega) ((kQ (bF (R k)) (bTo (R k) n)).1)) (cw_v hts tb_4_4 k_Cap_setBounds rfl rfl ⟨by decide, by decide⟩) hw (21 + (37)) (CW_at (by first | decide | omega)) rfl rfl hl.1 rfl (Nat.le_of_ble_eq_true rfl) d_Cun_bounded_99 ⟨Nat.zero_le _, Nat.zero_le _⟩) hw (fun z hD => CW_D hD) (fun z9 H locs hp9 hw => ?_)
    refine W.eq (g2 := F0 m9 102 ls []) rfl ?_
    have hw : Lv _ _ _ _ _ (CW ad ti u pi ex de xi xb di db fi fb ob reg (kQ (bF (R k)) (bTo (R k) n)) ca va fv (va_up (va_up R (37) (R k)) (37) ((((va_up R (37) (R k)) 37).1, ((va_up R (37) (R k)) 37).2.1, cSetB ((va_up R (37) (R k)) 37).2.2 ((kQ (bF (R k)) (bTo (R k) n)).1)) : Cap))) _ _ _ := hw
    refine lv_aload_n hx hb d_Cun_bounded_102 rfl (lv_at hl 2 rfl) ?_
    refine q_get S hw ly_Cun 19 rfl rfl 0 (by decide) tb_2_56 rfl rfl d_Cun_bounded_103 ?_
    refine q_get S hw ly_Sta 16 rfl rfl 2 (by decide) tb_1_216 rfl rfl d_Cun_bounded_106 ?_
    refine q_join (pcJ := 134) (st := [.int (jb (kBx (R k) n x)), .ref (reg 37)]) (lv' := [(8, .int (jb (kBn (R k) n))), (6, .long (bF (R k))), (0, .ref (ob 3)), (1, .ref ex), (2, .ref (reg k)), (3, .long n), (5, .int (jb x))]) (nL := 9) (fun ls hl => ?_) (fun J134 => ?_)
    · refine q_put (v := .int (jb (kBx (R k) n x))) S hw ly_Cap t_Cap t_Cap_ok n_Cap (21 + (37)) (CW_at (by first | decide | omega)) rfl 0 (by decide) tb_1_46 rfl rfl (jb_nar (kBx (R k) n x)) (jb_fit (kBx (R k) n x)) (Nat.le_of_ble_eq_true rfl) d_Cun_bounded_134 (fun H locs hw => ?_)
      have hw : Lv _ _ _ _ _ (CW ad ti u pi ex de xi xb di db fi fb ob reg (kQ (bF (R k)) (bTo (R k) n)) ca va fv (va_up (va_up (va_up R (37) (R k)) (37) ((((va_up R (37) (R k)) 37).1, ((va_up R (37) (R k)) 37).2.1, cSetB ((va_up R (37) (R k)) 37).2.2 ((kQ (bF (R k)) (bTo (R k) n)).1)) : Cap)) (37) (((kBx (R k) n x), ((va_up (va_up R (37) (R k)) (37) ((((va_up R (37) (R k)) 37).1, ((va_up R (37) (R k)) 37).2.1, cSetB ((va_up R (37) (R k)) 37).2.2 ((kQ (bF (R k)) (bTo (R k) n)).1)) : Cap)) 37).2.1, ((va_up (va_up R (37) (R k)) (37) ((((va_up R (37) (R k)) 37).1, ((va_up R (37) (R k)) 37).2.1, cSetB ((va_up R (37) (R k)) 37).2.2 ((kQ (bF (R k)) (bTo (R k) n)).1)) : Cap)) 37).2.2) : Cap))) _ _ _ := hw.same (CW_set (by first | decide | omega) (((kBx (R k) n x), ((va_up (va_up R (37) (R k)) (37) ((((va_up R (37) (R k)) 37).1, ((va_up R (37) (R k)) 37).2.1, cSetB ((va_up R (37) (R k)) 37).2.2 ((kQ (bF (R k)) (bTo (R k) n)).1)) : Cap)) 37).2.1, ((va_up (va_up R (37) (R k)) (37) ((((va_up R (37) (R k)) 37).1, ((va_up R (37) (R k)) 37).2.1, cSetB ((va_up R (37) (R k)) 37).2.2 ((kQ (bF (R k)) (bTo (R k) n)).1)) : Cap)) 37).2.2) : Cap))
      refine lv_aload_n hx hb d_Cun_bounded_137 rfl (lv_at hl 2 rfl) ?_
      refine q_get S hw ly_Cun 19 rfl rfl 0 (by decide) tb_2_56 rfl rfl d_Cun_bounded_138 ?_
      refine lv_aload_n hx hb d_Cun_bounded_141 rfl (lv_at hl 3 rfl) ?_
      refine q_get S hw ly_Ins 14 rfl rfl 3 (by decide) tb_1_155 rfl rfl d_Cun_bounded_142 ?_
      refine q_cg (q_runV (As := [.int (nI (nRd xb))]) (rest := []) S (c_Sta_answer l D ti ad u pi ex de xi xb di db fi fb ob reg (kQ (bF (R k)) (bTo (R k) n)) ca va fv (va_up (va_up (va_up R (37) (R k)) (37) ((((va_up R (37) (R k)) 37).1, ((va_up R (37) (R k)) 37).2.1, cSetB ((va_up R (37) (R k)) 37).2.2 ((kQ (bF (R k)) (bTo (R k) n)).1)) : Cap)) (37) (((kBx (R k) n x), ((va_up (va_up R (37) (R k)) (37) ((((va_up R (37) (R k)) 37).1, ((va_up R (37) (R k)) 37).2.1, cSetB ((va_up R (37) (R k)) 37).2.2 ((kQ (bF (R k)) (bTo (R k) n)).1)) : Cap)) 37).2.1, ((va_up (va_up R (37) (R k)) (37) ((((va_up R (37) (R k)) 37).1, ((va_up R (37) (R k)) 37).2.1, cSetB ((va_up R (37) (R k)) 37).2.2 ((kQ (bF (R k)) (bTo (R k) n)).1)) : Cap)) 37).2.2) : Cap)) (nRd xb) (by first | decide | omega)) (cw_v hts tb_3_227 k_Sta_answer rfl rfl ⟨by decide, by decide⟩) hw 16 rfl rfl rfl hl.1 rfl (Nat.le_of_ble_eq_true rfl) d_Cun_bounded_145 ⟨Nat.zero_le _, Nat.zero_le _⟩) hw (fun z hD => CW_D (qD_same hD rfl)) (fun z9 H locs hp9 hw => ?_)
      refine W.eq (g2 := F0 m9 148 ls [.int (-1 : Int32)]) rfl ?_
      have hw : Lv _ _ _ _ _ (CW ad ti u pi ex de xi xb di db fi fb ob reg (kQ (bF (R k)) (bTo (R k) n)) ca va fv (aR (va_up (va_up (va_up R (37) (R k)) (37) ((((va_up R (37) (R k)) 37).1, ((va_up R (37) (R k)) 37).2.1, cSetB ((va_up R (37) (R k)) 37).2.2 ((kQ (bF (R k)) (bTo (R k) n)).1)) : Cap)) (37) (((kBx (R k) n x), ((va_up (va_up R (37) (R k)) (37) ((((va_up R (37) (R k)) 37).1, ((va_up R (37) (R k)) 37).2.1, cSetB ((va_up R (37) (R k)) 37).2.2 ((kQ (bF (R k)) (bTo (R k) n)).1)) : Cap)) 37).2.1, ((va_up (va_up R (37) (R k)) (37) ((((va_up R (37) (R k)) 37).1, ((va_up R (37) (R k)) 37).2.1, cSetB ((va_up R (37) (R k)) 37).2.2 ((kQ (bF (R k)) (bTo (R k) n)).1)) : Cap)) 37).2.2) : Cap)) (nRd xb))) _ _ _ := hw
      exact hw.riz S hr hlk (rfl) d_Cun_bounded_148 () (rfl) (trivial) (by simp [uR, up_up, va_up_self, va_up_ne, uBn, hk37, kQ, bF, bTo])
    · refine lv_iload hx hb d_Cun_bounded_109 (lv_at hl 0 rfl) ?_
      refine q_ifz_eq S d_Cun_bounded_111 rfl (fun h111 => ?_) (fun h111 => ?_)
      · refine lv_iconst (v := 0) hx hb d_Cun_bounded_133 (by decide) ?_
        refine q_topi (z := (jb (kBx (R k) n x))) (by simp [kBx, jb, h111]) ?_
        exact J134 _ (lv_sub (l' := [(8, .int (jb (kBn (R k) n))), (6, .long (bF (R k))), (0, .ref (ob 3)), (1, .ref ex), (2, .ref (reg k)), (3, .long n), (5, .int (jb x))]) hl [0, 1, 2, 3, 4, 5, 6] rfl)
      · refine lv_aload_n hx hb d_Cun_bounded_114 rfl (lv_at hl 2 rfl) ?_
        refine q_get S hw ly_Cun 19 rfl rfl 1 (by decide) tb_2_57 rfl rfl d_Cun_bounded_115 ?_
        refine q_get S hw ly_Pk 20 rfl rfl 1 (by decide) tb_2_37 rfl rfl d_Cun_bounded_118 ?_
        refine q_ifz_ne S d_Cun_bounded_121 rfl (fun h121 => ?_) (fun h121 => ?_)
        · refine lv_iconst (v := 1) hx hb d_Cun_bounded_129 (by decide) ?_
          refine lv_goto hx hb d_Cun_bounded_130 rfl ?_
          refine q_topi (z := (jb (kBx (R k) n x))) (by have h121 : kEx (bF (R k)) (bTo (R k) n) = true := h121; simp [kBx, jb, h111, h121]) ?_
          exact J134 _ (lv_sub (l' := [(8, .int (jb (kBn (R k) n))), (6, .long (bF (R k))), (0, .ref (ob 3)), (1, .ref ex), (2, .ref (reg k)), (3, .long n), (5, .int (jb x))]) hl [0, 1, 2, 3, 4, 5, 6] rfl)
        · refine lv_iload hx hb d_Cun_bounded_124 (lv_at hl 6 rfl) ?_
          refine q_ifz_ne S d_Cun_bounded_126 rfl (fun h126 => ?_) (fun h126 => ?_)
          · refine lv_iconst (v := 0) hx hb d_Cun_bounded_133 (by decide) ?_
            refine q_topi (z := (jb (kBx (R k) n x))) (by have h121 : kEx (bF (R k)) (bTo (R k) n) = false := h121; simp [kBx, jb, h111, h121, h126]) ?_
            exact J134 _ (lv_sub (l' := [(8, .int (jb (kBn (R k) n))), (6, .long (bF (R k))), (0, .ref (ob 3)), (1, .ref ex), (2, .ref (reg k)), (3, .long n), (5, .int (jb x))]) hl [0, 1, 2, 3, 4, 5, 6] rfl)
          · refine lv_iconst (v := 1) hx hb d_Cun_bounded_129 (by decide) ?_
            refine lv_goto hx hb d_Cun_bounded_130 rfl ?_
            refine q_topi (z := (jb (kBx (R k) n x))) (by have h121 : kEx (bF (R k)) (bTo (R k) n) = false := h121; simp [kBx, jb, h111, h121, h126]) ?_
            exact J134 _ (lv_sub (l' := [(8, .int (jb (kBn (R k) n))), (6, .long (bF (R k))), (0, .ref (ob 3)), (1, .ref ex), (2, .ref (reg k)), (3, .long n), (5, .int (jb x))]) hl [0, 1, 2, 3, 4, 5, 6] rfl)
  · refine lv_aload_n hx hb d_Cun_bounded_30 rfl (lv_at hl 3 rfl) ?_
    refine q_get S hw ly_Cap (21 + (k)) (CW_at (by first | decide | omega)) rfl 0 (by decide) tb_1_46 rfl rfl d_Cun_bounded_31 ?_
    refine q_ifz_eq S d_Cun_bounded_34 rfl (fun h34 => ?_) (fun h34 => ?_)
    · refine lv_iconst (v := 0) hx hb d_Cun_bounded_71 (by decide) ?_
      refine q_topi (z := (jb (kBn (R k) n))) (by simp [kBn, jb, h34]) ?_
      exact J72 _ (lv_sub (l' := [(6, .long (bF (R k))), (0, .ref (ob 3)), (1, .ref ex), (2, .ref (reg k)), (3, .long n), (5, .int (jb x))]) hl [0, 1, 2, 3, 4, 5] rfl)
    · refine lv_aload_n hx hb d_Cun_bounded_37 rfl (lv_at hl 3 rfl) ?_
      refine q_cr (q_runV (As := []) (rest := []) S (w_isOpen l D ti ad u pi ex de xi xb di db fi fb ob reg (kQ (bF (R k)) (bTo (R k) n)) ca va fv R (k) (by first | decide | omega)) (cw_v hts tb_4_2 k_Cap_isOpen rfl rfl ⟨by decide, by decide⟩) hw (21 + (k)) (CW_at (by first | decide | omega)) rfl rfl hl.1 rfl (Nat.le_of_ble_eq_true rfl) d_Cun_bounded_38 ⟨Nat.zero_le _, Nat.zero_le _⟩) ?_
      refine W.eq (g2 := F0 m9 41 ls [.int (jb (cOpen (R k).2.2))]) rfl ?_
      refine q_ifz_eq S d_Cun_bounded_41 rfl (fun h41 => ?_) (fun h41 => ?_)
      · refine lv_iconst (v := 0) hx hb d_Cun_bounded_71 (by decide) ?_
        refine q_topi (z := (jb (kBn (R k) n))) (by simp [kBn, jb, h34, h41]) ?_
        exact J72 _ (lv_sub (l' := [(6, .long (bF (R k))), (0, .ref (ob 3)), (1, .ref ex), (2, .ref (reg k)), (3, .long n), (5, .int (jb x))]) hl [0, 1, 2, 3, 4, 5] rfl)
      · refine lv_aload_n hx hb d_Cun_bounded_44 rfl (lv_at hl 3 rfl) ?_
        refine lv_aload_n hx hb d_Cun_bounded_45 rfl (lv_at hl 3 rfl) ?_
        refine q_get S hw ly_Cap (21 + (k)) (CW_at (by first | decide | omega)) rfl 1 (by decide) tb_1_51 rfl rfl d_Cun_bounded_46 ?_
        refine lv_lload_n hx hb d_Cun_bounded_49 rfl (lv_at hl 4 rfl) ?_
        refine q_cr (q_runV (As := [.int ((R k).2.1), .long n]) (rest := []) S (w_covers l D ti ad u pi ex de xi xb di db fi fb ob reg (kQ (bF (R k)) (bTo (R k) n)) ca va fv R (k) (by first | decide | omega) ((R k).2.1) n) (cw_v hts tb_4_3 k_Cap_covers rfl rfl ⟨by decide, by decide⟩) hw (21 + (k)) (CW_at (by first | decide | omega)) rfl rfl hl.1 rfl (Nat.le_of_ble_eq_true rfl) d_Cun_bounded_50 ⟨Nat.zero_le _, Nat.zero_le _⟩) ?_
        refine W.eq (g2 := F0 m9 53 ls [.int (jb (cCov (cbase (R k).2.2 (R k).2.1) (ctop (R k).2.2 (R k).2.1) ((R k).2.1) n))]) rfl ?_
        refine q_ifz_eq S d_Cun_bounded_53 rfl (fun h53 => ?_) (fun h53 => ?_)
        · refine lv_iconst (v := 0) hx hb d_Cun_bounded_71 (by decide) ?_
          refine q_topi (z := (jb (kBn (R k) n))) (by simp [kBn, jb, h34, h41, h53]) ?_
          exact J72 _ (lv_sub (l' := [(6, .long (bF (R k))), (0, .ref (ob 3)), (1, .ref ex), (2, .ref (reg k)), (3, .long n), (5, .int (jb x))]) hl [0, 1, 2, 3, 4, 5] rfl)
        · refine lv_lload hx hb d_Cun_bounded_56 (lv_at hl 0 rfl) ?_
          refine lv_lload_n hx hb d_Cun_bounded_58 rfl (lv_at hl 4 rfl) ?_
          refine lv_ladd hx hb d_Cun_bounded_59 ?_
          refine lv_ldc2 (v := 4294967296) hx hb hown (hts _ tb_3_237) d_Cun_bounded_60 ?_
          refine q_lc_gt S d_Cun_bounded_63 d_Cun_bounded_64 rfl (fun h64 => ?_) (fun h64 => ?_)
          · refine lv_iconst (v := 0) hx hb d_Cun_bounded_71 (by decide) ?_
            refine q_topi (z := (jb (kBn (R k) n))) (by simp [kBn, jb, h34, h41, h53, h64]) ?_
            exact J72 _ (lv_sub (l' := [(6, .long (bF (R k))), (0, .ref (ob 3)), (1, .ref ex), (2, .ref (reg k)), (3, .long n), (5, .int (jb x))]) hl [0, 1, 2, 3, 4, 5] rfl)
          · refine lv_iconst (v := 1) hx hb d_Cun_bounded_67 (by decide) ?_
            refine lv_goto hx hb d_Cun_bounded_68 rfl ?_
            refine q_topi (z := (jb (kBn (R k) n))) (by simp [kBn, jb, h34, h41, h53, h64]) ?_
            exact J72 _ (lv_sub (l' := [(6, .long (bF (R k))), (0, .ref (ob 3)), (1, .ref ex), (2, .ref (reg k)), (3, .long n), (5, .int (jb x))]) hl [0, 1, 2, 3, 4, 5] rfl)
set_option maxHeartbeats 4000000 in
set_option maxRecDepth 100000 in
theorem c_Cun_representable (l : Launch) (D : va_G) (ti : Nat → ClassId) (ad : Nat → Nat) (u : MT) (pi ex de : Nat) (xi xb di db fi fb : Int32) (ob reg : Nat → Nat) (kq : Int32 × Bool × Bool × Int32 × Int64) (ca va fv : Int32) (R : Nat → Cap) (y : Int32) (m : Bool) : Cg l y_Cun_representable (wl y_Cun_representable b_Cun_representable 5 (some .int)) (rmL 3) D clz (ty4 ti) [.ref (ob 3), .ref ex, .int y, .int (jb m)] (CW ad ti u pi ex de xi xb di db fi fb ob reg kq ca va fv R) (fun _ : Unit => some (.int (-1))) (fun _ => (CW ad ti u pi ex de xi xb di db fi fb ob reg (kQ 0 (cLow y)) ca va fv (nR R (nRd xb) (rpV y m)))) (fun _ => True) := by
  refine Cg.ofF (plainFor_of_name (by decide)) (Nat.le_of_ble_eq_true rfl) ?_
  intro p9 e9 s9 m9 b9 me9 c9 ls S hr hlk hl hw
  obtain ⟨hx, hb, hml, hown, hts⟩ := id S
  have hl : lv_has ls 5 [(0, .ref (ob 3)), (1, .ref ex), (2, .int y), (3, .int (jb m))] := hl
  have hr1 := nR1_lt xb
  have hr2 := nR2_lt xb
  have hrd := nRd_lt xb
  refine lv_aload_n hx hb d_Cun_representable_0 rfl (lv_at hl 0 rfl) ?_
  refine q_get S hw ly_Cun 19 rfl rfl 1 (by decide) tb_2_57 rfl rfl d_Cun_representable_1 ?_
  refine lv_lconst (v := 0) hx hb d_Cun_representable_4 (by decide) ?_
  refine lv_iload_n hx hb d_Cun_representable_5 rfl (lv_at hl 2 rfl) ?_
  refine lv_i2l (v := (y.toInt64)) hx hb d_Cun_representable_6 rfl ?_
  refine lv_ldc2 (v := 4294967295) hx hb hown (hts _ tb_3_232) d_Cun_representable_7 ?_
  refine lv_land hx hb d_Cun_representable_10 ?_
  refine q_topl (z := (cLow y)) (rfl) ?_
  refine q_cg (q_runV (As := [.long (0 : Int64), .long (cLow y)]) (rest := []) S (Cg.one (c_Pk_fit l D (ty4 ti) (ob 4) kq.1 kq.2.1 kq.2.2.1 kq.2.2.2.1 kq.2.2.2.2 (0 : Int64) (cLow y)) 20 rfl) (cw_v hts tb_4_1 k_Pk_fit rfl rfl ⟨by decide, by decide⟩) hw 20 rfl rfl rfl hl.1 rfl (Nat.le_of_ble_eq_true rfl) d_Cun_representable_11 ⟨Nat.zero_le _, Nat.zero_le _⟩) hw (fun z hD => hD.set rfl) (fun z9 H locs hp9 hw => ?_)
  refine W.eq (g2 := F0 m9 14 ls []) rfl ?_
  have hw : Lv _ _ _ _ _ (CW ad ti u pi ex de xi xb di db fi fb ob reg (kQ (0 : Int64) (cLow y)) ca va fv R) _ _ _ := hw
  refine q_join (pcJ := 38) (st := [.int (rpM y)]) (lv' := [(0, .ref (ob 3)), (1, .ref ex), (2, .int y), (3, .int (jb m))]) (nL := 5) (fun ls hl => ?_) (fun J38 => ?_)
  · refine lv_istore (lv' := [(4, .int (rpM y)), (0, .ref (ob 3)), (1, .ref ex), (2, .int y), (3, .int (jb m))]) hx hb d_Cun_representable_38 hl (by decide) rfl (fun ls hl => ?_)
    refine lv_aload_n hx hb d_Cun_representable_40 rfl (lv_at hl 1 rfl) ?_
    refine q_get S hw ly_Cun 19 rfl rfl 0 (by decide) tb_2_56 rfl rfl d_Cun_representable_41 ?_
    refine lv_aload_n hx hb d_Cun_representable_44 rfl (lv_at hl 2 rfl) ?_
    refine q_get S hw ly_Ins 14 rfl rfl 3 (by decide) tb_1_155 rfl rfl d_Cun_representable_45 ?_
    refine q_join (pcJ := 65) (st := [.int (rpV y m), .int (nI (nRd xb)), .ref (ob 0)]) (lv' := [(4, .int (rpM y)), (0, .ref (ob 3)), (1, .ref ex), (2, .int y), (3, .int (jb m))]) (nL := 5) (fun ls hl => ?_) (fun J65 => ?_)
    · refine q_cg (q_runV (As := [.int (nI (nRd xb)), .int (rpV y m)]) (rest := []) S (c_Sta_answerNumber l D ti ad u pi ex de xi xb di db fi fb ob reg (kQ (0 : Int64) (cLow y)) ca va fv R (nRd xb) (by first | decide | omega) (rpV y m)) (cw_v hts tb_4_44 k_Sta_answerNumber rfl rfl ⟨by decide, by decide⟩) hw 16 rfl rfl rfl hl.1 rfl (Nat.le_of_ble_eq_true rfl) d_Cun_representable_65 ⟨Nat.zero_le _, Nat.zero_le _⟩) hw (fun z hD => CW_D (qD_same hD rfl)) (fun z9 H locs hp9 hw => ?_)
      refine W.eq (g2 := F0 m9 68 ls [.int (-1 : Int32)]) rfl ?_
      have hw : Lv _ _ _ _ _ (CW ad ti u pi ex de xi xb di db fi fb ob reg (kQ (0 : Int64) (cLow y)) ca va fv (nR R (nRd xb) (rpV y m))) _ _ _ := hw
      exact hw.riz S hr hlk (rfl) d_Cun_representable_68 () (rfl) (trivial) (rfl)
    · refine lv_iload_n hx hb d_Cun_representable_48 rfl (lv_at hl 4 rfl) ?_
      refine q_ifz_eq S d_Cun_representable_49 rfl (fun h49 => ?_) (fun h49 => ?_)
      · refine lv_aload_n hx hb d_Cun_representable_57 rfl (lv_at hl 1 rfl) ?_
        refine q_get S hw ly_Cun 19 rfl rfl 1 (by decide) tb_2_57 rfl rfl d_Cun_representable_58 ?_
        refine q_get S hw ly_Pk 20 rfl rfl 4 (by decide) tb_2_44 rfl rfl d_Cun_representable_61 ?_
        refine lv_l2i (v := (((kQ (0 : Int64) (cLow y)).2.2.2.2).toInt32)) hx hb d_Cun_representable_64 rfl ?_
        refine q_topi (z := (rpV y m)) (by simp [rpM, rpV, kQ, h49]) ?_
        exact J65 _ (lv_sub (l' := [(4, .int (rpM y)), (0, .ref (ob 3)), (1, .ref ex), (2, .int y), (3, .int (jb m))]) hl [0, 1, 2, 3, 4] rfl)
      · refine lv_iload hx hb d_Cun_representable_52 (lv_at hl 0 rfl) ?_
        refine lv_goto hx hb d_Cun_representable_54 rfl ?_
        refine q_topi (z := (rpV y m)) (by simp [rpM, rpV, kQ, h49]) ?_
        exact J65 _ (lv_sub (l' := [(4, .int (rpM y)), (0, .ref (ob 3)), (1, .ref ex), (2, .int y), (3, .int (jb m))]) hl [0, 1, 2, 3, 4] rfl)
  · refine lv_aload_n hx hb d_Cun_representable_14 rfl (lv_at hl 0 rfl) ?_
    refine q_get S hw ly_Cun 19 rfl rfl 1 (by decide) tb_2_57 rfl rfl d_Cun_representable_15 ?_
    refine q_get S hw ly_Pk 20 rfl rfl 2 (by decide) tb_2_40 rfl rfl d_Cun_representable_18 ?_
    refine q_ifz_eq S d_Cun_representable_21 rfl (fun h21 => ?_) (fun h21 => ?_)
    · refine lv_iconst (v := -1) hx hb d_Cun_representable_37 (by decide) ?_
      refine q_topi (z := (rpM y)) (by have h21 : kIn 0 (cLow y) = false := h21; simp [rpM, rpV, kQ, h21]) ?_
      exact J38 _ (lv_sub (l' := [(0, .ref (ob 3)), (1, .ref ex), (2, .int y), (3, .int (jb m))]) hl [0, 1, 2, 3] rfl)
    · refine lv_bipush (v := -8) hx hb d_Cun_representable_24 (by decide) ?_
      refine lv_aload_n hx hb d_Cun_representable_26 rfl (lv_at hl 0 rfl) ?_
      refine q_get S hw ly_Cun 19 rfl rfl 1 (by decide) tb_2_57 rfl rfl d_Cun_representable_27 ?_
      refine q_get S hw ly_Pk 20 rfl rfl 3 (by decide) tb_2_42 rfl rfl d_Cun_representable_30 ?_
      refine lv_ishl hx hb d_Cun_representable_33 ?_
      refine lv_goto hx hb d_Cun_representable_34 rfl ?_
      refine q_topi (z := (rpM y)) (by have h21 : kIn 0 (cLow y) = true := h21; simp [rpM, rpV, kQ, h21]) ?_
      exact J38 _ (lv_sub (l' := [(0, .ref (ob 3)), (1, .ref ex), (2, .int y), (3, .int (jb m))]) hl [0, 1, 2, 3] rfl)
set_option maxHeartbeats 4000000 in
set_option maxRecDepth 100000 in
theorem c_Cun_invokeFault (l : Launch) (D : va_G) (ti : Nat → ClassId) (ad : Nat → Nat) (u : MT) (pi ex de : Nat) (xi xb di db fi fb : Int32) (ob reg : Nat → Nat) (kq : Int32 × Bool × Bool × Int32 × Int64) (ca va fv : Int32) (R : Nat → Cap) : Cg l y_Cun_invokeFault (wl y_Cun_invokeFault b_Cun_invokeFault 5 (some .int)) (rmL 2) D clz (ty4 ti) [.ref (ob 3), .ref ex, .ref (reg (nR1 xb)), .ref (reg (nR2 xb))] (CW ad ti u pi ex de xi xb di db fi fb ob reg kq ca va fv R) (fun _ : Unit => some (.int (ivF fv R xb).1)) (fun _ => (CW ad ti u pi ex de xi xb di db fi fb ob reg kq ca va ((ivF fv R xb).2) R)) (fun _ => True) := by
  refine Cg.ofF (plainFor_of_name (by decide)) (Nat.le_of_ble_eq_true rfl) ?_
  intro p9 e9 s9 m9 b9 me9 c9 ls S hr hlk hl hw
  obtain ⟨hx, hb, hml, hown, hts⟩ := id S
  have hl : lv_has ls 5 [(0, .ref (ob 3)), (1, .ref ex), (2, .ref (reg (nR1 xb))), (3, .ref (reg (nR2 xb)))] := hl
  have hr1 := nR1_lt xb
  have hr2 := nR2_lt xb
  have hrd := nRd_lt xb
  refine lv_aload_n hx hb d_Cun_invokeFault_0 rfl (lv_at hl 2 rfl) ?_
  refine q_get S hw ly_Cap (21 + (nR1 xb)) (CW_at (by first | decide | omega)) rfl 0 (by decide) tb_1_46 rfl rfl d_Cun_invokeFault_1 ?_
  refine q_ifz_eq S d_Cun_invokeFault_4 rfl (fun h4 => ?_) (fun h4 => ?_)
  · refine lv_aload_n hx hb d_Cun_invokeFault_14 rfl (lv_at hl 0 rfl) ?_
    refine q_get S hw ly_Cun 19 rfl rfl 0 (by decide) tb_2_56 rfl rfl d_Cun_invokeFault_15 ?_
    refine lv_aload_n hx hb d_Cun_invokeFault_18 rfl (lv_at hl 2 rfl) ?_
    refine q_get S hw ly_Cap (21 + (nR1 xb)) (CW_at (by first | decide | omega)) rfl 0 (by decide) tb_1_46 rfl rfl d_Cun_invokeFault_19 ?_
    refine q_ifz_eq S d_Cun_invokeFault_22 rfl (fun h22 => ?_) (fun h22 => ?_)
    · refine lv_aload_n hx hb d_Cun_invokeFault_32 rfl (lv_at hl 1 rfl) ?_
      refine q_get S hw ly_Ins 14 rfl rfl 5 (by decide) tb_1_159 rfl rfl d_Cun_invokeFault_33 ?_
      refine lv_iconst (v := 2) hx hb d_Cun_invokeFault_36 (by decide) ?_
      refine q_cg (q_runV (As := [.int (nI (nR1 xb)), .int (2 : Int32)]) (rest := []) S (c_Sta_capabilityFault l D ti ad u pi ex de xi xb di db fi fb ob reg kq ca va fv R (nR1 xb) (2 : Int32)) (cw_v hts tb_3_225 k_Sta_capabilityFault rfl rfl ⟨by decide, by decide⟩) hw 16 rfl rfl rfl hl.1 rfl (Nat.le_of_ble_eq_true rfl) d_Cun_invokeFault_37 ⟨Nat.zero_le _, Nat.zero_le _⟩) hw (fun z hD => qD_same hD rfl) (fun z9 H locs hp9 hw => ?_)
      refine W.eq (g2 := F0 m9 40 ls [.int (28 : Int32)]) rfl ?_
      have hw : Lv _ _ _ _ _ (CW ad ti u pi ex de xi xb di db fi fb ob reg kq ca va (32 * nI (nR1 xb) + (2 : Int32)) R) _ _ _ := hw
      exact hw.riz S hr hlk (rfl) d_Cun_invokeFault_40 () (by simp [ivF, ivW, ivK, h4, h22]) (trivial) (by simp [ivF, ivW, ivK, h4, h22])
    · rw [h4] at h22
      exact absurd h22 (by decide)
  · refine lv_aload_n hx hb d_Cun_invokeFault_7 rfl (lv_at hl 3 rfl) ?_
    refine q_get S hw ly_Cap (21 + (nR2 xb)) (CW_at (by first | decide | omega)) rfl 0 (by decide) tb_1_46 rfl rfl d_Cun_invokeFault_8 ?_
    refine q_ifz_ne S d_Cun_invokeFault_11 rfl (fun h11 => ?_) (fun h11 => ?_)
    · refine lv_aload_n hx hb d_Cun_invokeFault_41 rfl (lv_at hl 2 rfl) ?_
      refine q_cr (q_runV (As := []) (rest := []) S (w_type l D ti ad u pi ex de xi xb di db fi fb ob reg kq ca va fv R (nR1 xb) (by first | decide | omega)) (cw_v hts tb_4_24 k_Cap_type rfl rfl ⟨by decide, by decide⟩) hw (21 + (nR1 xb)) (CW_at (by first | decide | omega)) rfl rfl hl.1 rfl (Nat.le_of_ble_eq_true rfl) d_Cun_invokeFault_42 ⟨Nat.zero_le _, Nat.zero_le _⟩) ?_
      refine W.eq (g2 := F0 m9 45 ls [.int (cType (R (nR1 xb)).2.2)]) rfl ?_
      refine lv_bipush (v := 12) hx hb d_Cun_invokeFault_45 (by decide) ?_
      refine lv_icmp_ge hx hb d_Cun_invokeFault_47 rfl (fun h47 => ?_) (fun h47 => ?_)
      · refine lv_iconst (v := 0) hx hb d_Cun_invokeFault_54 (by decide) ?_
        refine lv_istore (lv' := [(4, .int (0 : Int32)), (0, .ref (ob 3)), (1, .ref ex), (2, .ref (reg (nR1 xb))), (3, .ref (reg (nR2 xb)))]) hx hb d_Cun_invokeFault_55 hl (by decide) rfl (fun ls hl => ?_)
        refine lv_iload hx hb d_Cun_invokeFault_57 (lv_at hl 0 rfl) ?_
        refine lv_if_eq hx hb d_Cun_invokeFault_59 rfl (fun _ => ?_) (fun h => absurd h (by decide))
        refine lv_aload_n hx hb d_Cun_invokeFault_71 rfl (lv_at hl 1 rfl) ?_
        refine q_get S hw ly_Cun 19 rfl rfl 0 (by decide) tb_2_56 rfl rfl d_Cun_invokeFault_72 ?_
        refine lv_iload hx hb d_Cun_invokeFault_75 (lv_at hl 0 rfl) ?_
        refine lv_if_eq hx hb d_Cun_invokeFault_77 rfl (fun _ => ?_) (fun h => absurd h (by decide))
        refine lv_aload_n hx hb d_Cun_invokeFault_87 rfl (lv_at hl 2 rfl) ?_
        refine q_get S hw ly_Ins 14 rfl rfl 5 (by decide) tb_1_159 rfl rfl d_Cun_invokeFault_88 ?_
        refine lv_iconst (v := 3) hx hb d_Cun_invokeFault_91 (by decide) ?_
        refine q_cg (q_runV (As := [.int (nI (nR1 xb)), .int (3 : Int32)]) (rest := []) S (c_Sta_capabilityFault l D ti ad u pi ex de xi xb di db fi fb ob reg kq ca va fv R (nR1 xb) (3 : Int32)) (cw_v hts tb_3_225 k_Sta_capabilityFault rfl rfl ⟨by decide, by decide⟩) hw 16 rfl rfl rfl hl.1 rfl (Nat.le_of_ble_eq_true rfl) d_Cun_invokeFault_92 ⟨Nat.zero_le _, Nat.zero_le _⟩) hw (fun z hD => qD_same hD rfl) (fun z9 H locs hp9 hw => ?_)
        refine W.eq (g2 := F0 m9 95 ls [.int (28 : Int32)]) rfl ?_
        have hw : Lv _ _ _ _ _ (CW ad ti u pi ex de xi xb di db fi fb ob reg kq ca va (32 * nI (nR1 xb) + (3 : Int32)) R) _ _ _ := hw
        exact hw.riz S hr hlk (rfl) d_Cun_invokeFault_95 () (by simp [ivF, ivW, ivK, h4, h11, h47]) (trivial) (by simp [ivF, ivW, ivK, h4, h11, h47])
      · refine lv_iconst (v := 1) hx hb d_Cun_invokeFault_50 (by decide) ?_
        refine lv_goto hx hb d_Cun_invokeFault_51 rfl ?_
        refine lv_istore (lv' := [(4, .int (1 : Int32)), (0, .ref (ob 3)), (1, .ref ex), (2, .ref (reg (nR1 xb))), (3, .ref (reg (nR2 xb)))]) hx hb d_Cun_invokeFault_55 hl (by decide) rfl (fun ls hl => ?_)
        refine lv_iload hx hb d_Cun_invokeFault_57 (lv_at hl 0 rfl) ?_
        refine lv_if_eq hx hb d_Cun_invokeFault_59 rfl (fun h => absurd h (by decide)) (fun _ => ?_)
        refine lv_aload_n hx hb d_Cun_invokeFault_62 rfl (lv_at hl 4 rfl) ?_
        refine q_cr (q_runV (As := []) (rest := []) S (w_type l D ti ad u pi ex de xi xb di db fi fb ob reg kq ca va fv R (nR2 xb) (by first | decide | omega)) (cw_v hts tb_4_24 k_Cap_type rfl rfl ⟨by decide, by decide⟩) hw (21 + (nR2 xb)) (CW_at (by first | decide | omega)) rfl rfl hl.1 rfl (Nat.le_of_ble_eq_true rfl) d_Cun_invokeFault_63 ⟨Nat.zero_le _, Nat.zero_le _⟩) ?_
        refine W.eq (g2 := F0 m9 66 ls [.int (cType (R (nR2 xb)).2.2)]) rfl ?_
        refine lv_bipush (v := 12) hx hb d_Cun_invokeFault_66 (by decide) ?_
        refine lv_icmp_lt hx hb d_Cun_invokeFault_68 rfl (fun h68 => ?_) (fun h68 => ?_)
        · refine lv_aload_n hx hb d_Cun_invokeFault_96 rfl (lv_at hl 3 rfl) ?_
          refine q_cr (q_runV (As := []) (rest := []) S (w_type l D ti ad u pi ex de xi xb di db fi fb ob reg kq ca va fv R (nR1 xb) (by first | decide | omega)) (cw_v hts tb_4_24 k_Cap_type rfl rfl ⟨by decide, by decide⟩) hw (21 + (nR1 xb)) (CW_at (by first | decide | omega)) rfl rfl hl.1 rfl (Nat.le_of_ble_eq_true rfl) d_Cun_invokeFault_97 ⟨Nat.zero_le _, Nat.zero_le _⟩) ?_
          refine W.eq (g2 := F0 m9 100 ls [.int (cType (R (nR1 xb)).2.2)]) rfl ?_
          refine lv_aload_n hx hb d_Cun_invokeFault_100 rfl (lv_at hl 4 rfl) ?_
          refine q_cr (q_runV (As := []) (rest := [.int (cType (R (nR1 xb)).2.2)]) S (w_type l D ti ad u pi ex de xi xb di db fi fb ob reg kq ca va fv R (nR2 xb) (by first | decide | omega)) (cw_v hts tb_4_24 k_Cap_type rfl rfl ⟨by decide, by decide⟩) hw (21 + (nR2 xb)) (CW_at (by first | decide | omega)) rfl rfl hl.1 rfl (Nat.le_of_ble_eq_true rfl) d_Cun_invokeFault_101 ⟨Nat.zero_le _, Nat.zero_le _⟩) ?_
          refine W.eq (g2 := F0 m9 104 ls [.int (cType (R (nR2 xb)).2.2), .int (cType (R (nR1 xb)).2.2)]) rfl ?_
          refine lv_icmp_eq hx hb d_Cun_invokeFault_104 rfl (fun h104 => ?_) (fun h104 => ?_)
          · refine lv_aload_n hx hb d_Cun_invokeFault_120 rfl (lv_at hl 3 rfl) ?_
            refine lv_bipush (v := 8) hx hb d_Cun_invokeFault_121 (by decide) ?_
            refine q_cr (q_runV (As := [.int (8 : Int32)]) (rest := []) S (w_may l D ti ad u pi ex de xi xb di db fi fb ob reg kq ca va fv R (nR1 xb) (by first | decide | omega) (8 : Int32)) (cw_v hts tb_3_224 k_Cap_may rfl rfl ⟨by decide, by decide⟩) hw (21 + (nR1 xb)) (CW_at (by first | decide | omega)) rfl rfl hl.1 rfl (Nat.le_of_ble_eq_true rfl) d_Cun_invokeFault_123 ⟨Nat.zero_le _, Nat.zero_le _⟩) ?_
            refine W.eq (g2 := F0 m9 126 ls [.int (jb (cMay (R (nR1 xb)).2.2 (8 : Int32)))]) rfl ?_
            refine q_ifz_eq S d_Cun_invokeFault_126 rfl (fun h126 => ?_) (fun h126 => ?_)
            · refine lv_aload_n hx hb d_Cun_invokeFault_138 rfl (lv_at hl 1 rfl) ?_
              refine q_get S hw ly_Cun 19 rfl rfl 0 (by decide) tb_2_56 rfl rfl d_Cun_invokeFault_139 ?_
              refine lv_aload_n hx hb d_Cun_invokeFault_142 rfl (lv_at hl 3 rfl) ?_
              refine lv_bipush (v := 8) hx hb d_Cun_invokeFault_143 (by decide) ?_
              refine q_cr (q_runV (As := [.int (8 : Int32)]) (rest := [.ref (ob 0)]) S (w_may l D ti ad u pi ex de xi xb di db fi fb ob reg kq ca va fv R (nR1 xb) (by first | decide | omega) (8 : Int32)) (cw_v hts tb_3_224 k_Cap_may rfl rfl ⟨by decide, by decide⟩) hw (21 + (nR1 xb)) (CW_at (by first | decide | omega)) rfl rfl hl.1 rfl (Nat.le_of_ble_eq_true rfl) d_Cun_invokeFault_145 ⟨Nat.zero_le _, Nat.zero_le _⟩) ?_
              refine W.eq (g2 := F0 m9 148 ls [.int (jb (cMay (R (nR1 xb)).2.2 (8 : Int32))), .ref (ob 0)]) rfl ?_
              refine q_ifz_eq S d_Cun_invokeFault_148 rfl (fun h148 => ?_) (fun h148 => ?_)
              · refine lv_aload_n hx hb d_Cun_invokeFault_158 rfl (lv_at hl 2 rfl) ?_
                refine q_get S hw ly_Ins 14 rfl rfl 5 (by decide) tb_1_159 rfl rfl d_Cun_invokeFault_159 ?_
                refine lv_bipush (v := 25) hx hb d_Cun_invokeFault_162 (by decide) ?_
                refine q_cg (q_runV (As := [.int (nI (nR1 xb)), .int (25 : Int32)]) (rest := []) S (c_Sta_capabilityFault l D ti ad u pi ex de xi xb di db fi fb ob reg kq ca va fv R (nR1 xb) (25 : Int32)) (cw_v hts tb_3_225 k_Sta_capabilityFault rfl rfl ⟨by decide, by decide⟩) hw 16 rfl rfl rfl hl.1 rfl (Nat.le_of_ble_eq_true rfl) d_Cun_invokeFault_164 ⟨Nat.zero_le _, Nat.zero_le _⟩) hw (fun z hD => qD_same hD rfl) (fun z9 H locs hp9 hw => ?_)
                refine W.eq (g2 := F0 m9 167 ls [.int (28 : Int32)]) rfl ?_
                have hw : Lv _ _ _ _ _ (CW ad ti u pi ex de xi xb di db fi fb ob reg kq ca va (32 * nI (nR1 xb) + (25 : Int32)) R) _ _ _ := hw
                exact hw.riz S hr hlk (rfl) d_Cun_invokeFault_167 () (by simp [ivF, ivW, ivK, h4, h11, h47, Int32.not_le.mpr h68, h104, h126, h148]) (trivial) (by simp [ivF, ivW, ivK, h4, h11, h47, Int32.not_le.mpr h68, h104, h126, h148])
              · rw [h126] at h148
                exact absurd h148 (by decide)
            · refine lv_aload_n hx hb d_Cun_invokeFault_129 rfl (lv_at hl 4 rfl) ?_
              refine lv_bipush (v := 8) hx hb d_Cun_invokeFault_130 (by decide) ?_
              refine q_cr (q_runV (As := [.int (8 : Int32)]) (rest := []) S (w_may l D ti ad u pi ex de xi xb di db fi fb ob reg kq ca va fv R (nR2 xb) (by first | decide | omega) (8 : Int32)) (cw_v hts tb_3_224 k_Cap_may rfl rfl ⟨by decide, by decide⟩) hw (21 + (nR2 xb)) (CW_at (by first | decide | omega)) rfl rfl hl.1 rfl (Nat.le_of_ble_eq_true rfl) d_Cun_invokeFault_132 ⟨Nat.zero_le _, Nat.zero_le _⟩) ?_
              refine W.eq (g2 := F0 m9 135 ls [.int (jb (cMay (R (nR2 xb)).2.2 (8 : Int32)))]) rfl ?_
              refine q_ifz_ne S d_Cun_invokeFault_135 rfl (fun h135 => ?_) (fun h135 => ?_)
              · refine lv_aload_n hx hb d_Cun_invokeFault_168 rfl (lv_at hl 3 rfl) ?_
                refine lv_iconst (v := 1) hx hb d_Cun_invokeFault_169 (by decide) ?_
                refine q_cr (q_runV (As := [.int (1 : Int32)]) (rest := []) S (w_may l D ti ad u pi ex de xi xb di db fi fb ob reg kq ca va fv R (nR1 xb) (by first | decide | omega) (1 : Int32)) (cw_v hts tb_3_224 k_Cap_may rfl rfl ⟨by decide, by decide⟩) hw (21 + (nR1 xb)) (CW_at (by first | decide | omega)) rfl rfl hl.1 rfl (Nat.le_of_ble_eq_true rfl) d_Cun_invokeFault_170 ⟨Nat.zero_le _, Nat.zero_le _⟩) ?_
                refine W.eq (g2 := F0 m9 173 ls [.int (jb (cMay (R (nR1 xb)).2.2 (1 : Int32)))]) rfl ?_
                refine q_ifz_eq S d_Cun_invokeFault_173 rfl (fun h173 => ?_) (fun h173 => ?_)
                · refine lv_aload_n hx hb d_Cun_invokeFault_184 rfl (lv_at hl 1 rfl) ?_
                  refine q_get S hw ly_Cun 19 rfl rfl 0 (by decide) tb_2_56 rfl rfl d_Cun_invokeFault_185 ?_
                  refine lv_aload_n hx hb d_Cun_invokeFault_188 rfl (lv_at hl 3 rfl) ?_
                  refine lv_iconst (v := 1) hx hb d_Cun_invokeFault_189 (by decide) ?_
                  refine q_cr (q_runV (As := [.int (1 : Int32)]) (rest := [.ref (ob 0)]) S (w_may l D ti ad u pi ex de xi xb di db fi fb ob reg kq ca va fv R (nR1 xb) (by first | decide | omega) (1 : Int32)) (cw_v hts tb_3_224 k_Cap_may rfl rfl ⟨by decide, by decide⟩) hw (21 + (nR1 xb)) (CW_at (by first | decide | omega)) rfl rfl hl.1 rfl (Nat.le_of_ble_eq_true rfl) d_Cun_invokeFault_190 ⟨Nat.zero_le _, Nat.zero_le _⟩) ?_
                  refine W.eq (g2 := F0 m9 193 ls [.int (jb (cMay (R (nR1 xb)).2.2 (1 : Int32))), .ref (ob 0)]) rfl ?_
                  refine q_ifz_eq S d_Cun_invokeFault_193 rfl (fun h193 => ?_) (fun h193 => ?_)
                  · refine lv_aload_n hx hb d_Cun_invokeFault_203 rfl (lv_at hl 2 rfl) ?_
                    refine q_get S hw ly_Ins 14 rfl rfl 5 (by decide) tb_1_159 rfl rfl d_Cun_invokeFault_204 ?_
                    refine lv_bipush (v := 17) hx hb d_Cun_invokeFault_207 (by decide) ?_
                    refine q_cg (q_runV (As := [.int (nI (nR1 xb)), .int (17 : Int32)]) (rest := []) S (c_Sta_capabilityFault l D ti ad u pi ex de xi xb di db fi fb ob reg kq ca va fv R (nR1 xb) (17 : Int32)) (cw_v hts tb_3_225 k_Sta_capabilityFault rfl rfl ⟨by decide, by decide⟩) hw 16 rfl rfl rfl hl.1 rfl (Nat.le_of_ble_eq_true rfl) d_Cun_invokeFault_209 ⟨Nat.zero_le _, Nat.zero_le _⟩) hw (fun z hD => qD_same hD rfl) (fun z9 H locs hp9 hw => ?_)
                    refine W.eq (g2 := F0 m9 212 ls [.int (28 : Int32)]) rfl ?_
                    have hw : Lv _ _ _ _ _ (CW ad ti u pi ex de xi xb di db fi fb ob reg kq ca va (32 * nI (nR1 xb) + (17 : Int32)) R) _ _ _ := hw
                    exact hw.riz S hr hlk (rfl) d_Cun_invokeFault_212 () (by simp [ivF, ivW, ivK, h4, h11, h47, Int32.not_le.mpr h68, h104, h126, h135, h173, h193]) (trivial) (by simp [ivF, ivW, ivK, h4, h11, h47, Int32.not_le.mpr h68, h104, h126, h135, h173, h193])
                  · rw [h173] at h193
                    exact absurd h193 (by decide)
                · refine lv_aload_n hx hb d_Cun_invokeFault_176 rfl (lv_at hl 4 rfl) ?_
                  refine lv_iconst (v := 1) hx hb d_Cun_invokeFault_177 (by decide) ?_
                  refine q_cr (q_runV (As := [.int (1 : Int32)]) (rest := []) S (w_may l D ti ad u pi ex de xi xb di db fi fb ob reg kq ca va fv R (nR2 xb) (by first | decide | omega) (1 : Int32)) (cw_v hts tb_3_224 k_Cap_may rfl rfl ⟨by decide, by decide⟩) hw (21 + (nR2 xb)) (CW_at (by first | decide | omega)) rfl rfl hl.1 rfl (Nat.le_of_ble_eq_true rfl) d_Cun_invokeFault_178 ⟨Nat.zero_le _, Nat.zero_le _⟩) ?_
                  refine W.eq (g2 := F0 m9 181 ls [.int (jb (cMay (R (nR2 xb)).2.2 (1 : Int32)))]) rfl ?_
                  refine q_ifz_eq S d_Cun_invokeFault_181 rfl (fun h181 => ?_) (fun h181 => ?_)
                  · refine lv_iconst (v := -1) hx hb d_Cun_invokeFault_213 (by decide) ?_
                    exact hw.riz S hr hlk (rfl) d_Cun_invokeFault_214 () (by simp [ivF, ivW, ivK, h4, h11, h47, Int32.not_le.mpr h68, h104, h126, h135, h173, h181]) (trivial) (by simp [ivF, ivW, ivK, h4, h11, h47, Int32.not_le.mpr h68, h104, h126, h135, h173, h181])
                  · refine lv_aload_n hx hb d_Cun_invokeFault_184 rfl (lv_at hl 1 rfl) ?_
                    refine q_get S hw ly_Cun 19 rfl rfl 0 (by decide) tb_2_56 rfl rfl d_Cun_invokeFault_185 ?_
                    refine lv_aload_n hx hb d_Cun_invokeFault_188 rfl (lv_at hl 3 rfl) ?_
                    refine lv_iconst (v := 1) hx hb d_Cun_invokeFault_189 (by decide) ?_
                    refine q_cr (q_runV (As := [.int (1 : Int32)]) (rest := [.ref (ob 0)]) S (w_may l D ti ad u pi ex de xi xb di db fi fb ob reg kq ca va fv R (nR1 xb) (by first | decide | omega) (1 : Int32)) (cw_v hts tb_3_224 k_Cap_may rfl rfl ⟨by decide, by decide⟩) hw (21 + (nR1 xb)) (CW_at (by first | decide | omega)) rfl rfl hl.1 rfl (Nat.le_of_ble_eq_true rfl) d_Cun_invokeFault_190 ⟨Nat.zero_le _, Nat.zero_le _⟩) ?_
                    refine W.eq (g2 := F0 m9 193 ls [.int (jb (cMay (R (nR1 xb)).2.2 (1 : Int32))), .ref (ob 0)]) rfl ?_
                    refine q_ifz_eq S d_Cun_invokeFault_193 rfl (fun h193 => ?_) (fun h193 => ?_)
                    · rw [h173] at h193
                      exact absurd h193 (by decide)
                    · refine lv_aload_n hx hb d_Cun_invokeFault_196 rfl (lv_at hl 2 rfl) ?_
                      refine q_get S hw ly_Ins 14 rfl rfl 6 (by decide) tb_1_162 rfl rfl d_Cun_invokeFault_197 ?_
                      refine lv_goto hx hb d_Cun_invokeFault_200 rfl ?_
                      refine lv_bipush (v := 17) hx hb d_Cun_invokeFault_207 (by decide) ?_
                      refine q_cg (q_runV (As := [.int (nI (nR2 xb)), .int (17 : Int32)]) (rest := []) S (c_Sta_capabilityFault l D ti ad u pi ex de xi xb di db fi fb ob reg kq ca va fv R (nR2 xb) (17 : Int32)) (cw_v hts tb_3_225 k_Sta_capabilityFault rfl rfl ⟨by decide, by decide⟩) hw 16 rfl rfl rfl hl.1 rfl (Nat.le_of_ble_eq_true rfl) d_Cun_invokeFault_209 ⟨Nat.zero_le _, Nat.zero_le _⟩) hw (fun z hD => qD_same hD rfl) (fun z9 H locs hp9 hw => ?_)
                      refine W.eq (g2 := F0 m9 212 ls [.int (28 : Int32)]) rfl ?_
                      have hw : Lv _ _ _ _ _ (CW ad ti u pi ex de xi xb di db fi fb ob reg kq ca va (32 * nI (nR2 xb) + (17 : Int32)) R) _ _ _ := hw
                      exact hw.riz S hr hlk (rfl) d_Cun_invokeFault_212 () (by simp [ivF, ivW, ivK, h4, h11, h47, Int32.not_le.mpr h68, h104, h126, h135, h173, h181, h193]) (trivial) (by simp [ivF, ivW, ivK, h4, h11, h47, Int32.not_le.mpr h68, h104, h126, h135, h173, h181, h193])
              · refine lv_aload_n hx hb d_Cun_invokeFault_138 rfl (lv_at hl 1 rfl) ?_
                refine q_get S hw ly_Cun 19 rfl rfl 0 (by decide) tb_2_56 rfl rfl d_Cun_invokeFault_139 ?_
                refine lv_aload_n hx hb d_Cun_invokeFault_142 rfl (lv_at hl 3 rfl) ?_
                refine lv_bipush (v := 8) hx hb d_Cun_invokeFault_143 (by decide) ?_
                refine q_cr (q_runV (As := [.int (8 : Int32)]) (rest := [.ref (ob 0)]) S (w_may l D ti ad u pi ex de xi xb di db fi fb ob reg kq ca va fv R (nR1 xb) (by first | decide | omega) (8 : Int32)) (cw_v hts tb_3_224 k_Cap_may rfl rfl ⟨by decide, by decide⟩) hw (21 + (nR1 xb)) (CW_at (by first | decide | omega)) rfl rfl hl.1 rfl (Nat.le_of_ble_eq_true rfl) d_Cun_invokeFault_145 ⟨Nat.zero_le _, Nat.zero_le _⟩) ?_
                refine W.eq (g2 := F0 m9 148 ls [.int (jb (cMay (R (nR1 xb)).2.2 (8 : Int32))), .ref (ob 0)]) rfl ?_
                refine q_ifz_eq S d_Cun_invokeFault_148 rfl (fun h148 => ?_) (fun h148 => ?_)
                · rw [h126] at h148
                  exact absurd h148 (by decide)
                · refine lv_aload_n hx hb d_Cun_invokeFault_151 rfl (lv_at hl 2 rfl) ?_
                  refine q_get S hw ly_Ins 14 rfl rfl 6 (by decide) tb_1_162 rfl rfl d_Cun_invokeFault_152 ?_
                  refine lv_goto hx hb d_Cun_invokeFault_155 rfl ?_
                  refine lv_bipush (v := 25) hx hb d_Cun_invokeFault_162 (by decide) ?_
                  refine q_cg (q_runV (As := [.int (nI (nR2 xb)), .int (25 : Int32)]) (rest := []) S (c_Sta_capabilityFault l D ti ad u pi ex de xi xb di db fi fb ob reg kq ca va fv R (nR2 xb) (25 : Int32)) (cw_v hts tb_3_225 k_Sta_capabilityFault rfl rfl ⟨by decide, by decide⟩) hw 16 rfl rfl rfl hl.1 rfl (Nat.le_of_ble_eq_true rfl) d_Cun_invokeFault_164 ⟨Nat.zero_le _, Nat.zero_le _⟩) hw (fun z hD => qD_same hD rfl) (fun z9 H locs hp9 hw => ?_)
                  refine W.eq (g2 := F0 m9 167 ls [.int (28 : Int32)]) rfl ?_
                  have hw : Lv _ _ _ _ _ (CW ad ti u pi ex de xi xb di db fi fb ob reg kq ca va (32 * nI (nR2 xb) + (25 : Int32)) R) _ _ _ := hw
                  exact hw.riz S hr hlk (rfl) d_Cun_invokeFault_167 () (by simp [ivF, ivW, ivK, h4, h11, h47, Int32.not_le.mpr h68, h104, h126, h135, h148]) (trivial) (by simp [ivF, ivW, ivK, h4, h11, h47, Int32.not_le.mpr h68, h104, h126, h135, h148])
          · refine lv_aload_n hx hb d_Cun_invokeFault_107 rfl (lv_at hl 1 rfl) ?_
            refine q_get S hw ly_Cun 19 rfl rfl 0 (by decide) tb_2_56 rfl rfl d_Cun_invokeFault_108 ?_
            refine lv_aload_n hx hb d_Cun_invokeFault_111 rfl (lv_at hl 2 rfl) ?_
            refine q_get S hw ly_Ins 14 rfl rfl 5 (by decide) tb_1_159 rfl rfl d_Cun_invokeFault_112 ?_
            refine lv_iconst (v := 4) hx hb d_Cun_invokeFault_115 (by decide) ?_
            refine q_cg (q_runV (As := [.int (nI (nR1 xb)), .int (4 : Int32)]) (rest := []) S (c_Sta_capabilityFault l D ti ad u pi ex de xi xb di db fi fb ob reg kq ca va fv R (nR1 xb) (4 : Int32)) (cw_v hts tb_3_225 k_Sta_capabilityFault rfl rfl ⟨by decide, by decide⟩) hw 16 rfl rfl rfl hl.1 rfl (Nat.le_of_ble_eq_true rfl) d_Cun_invokeFault_116 ⟨Nat.zero_le _, Nat.zero_le _⟩) hw (fun z hD => qD_same hD rfl) (fun z9 H locs hp9 hw => ?_)
            refine W.eq (g2 := F0 m9 119 ls [.int (28 : Int32)]) rfl ?_
            have hw : Lv _ _ _ _ _ (CW ad ti u pi ex de xi xb di db fi fb ob reg kq ca va (32 * nI (nR1 xb) + (4 : Int32)) R) _ _ _ := hw
            exact hw.riz S hr hlk (rfl) d_Cun_invokeFault_119 () (by simp [ivF, ivW, ivK, h4, h11, h47, Int32.not_le.mpr h68, h104]) (trivial) (by simp [ivF, ivW, ivK, h4, h11, h47, Int32.not_le.mpr h68, h104])
        · refine lv_aload_n hx hb d_Cun_invokeFault_71 rfl (lv_at hl 1 rfl) ?_
          refine q_get S hw ly_Cun 19 rfl rfl 0 (by decide) tb_2_56 rfl rfl d_Cun_invokeFault_72 ?_
          refine lv_iload hx hb d_Cun_invokeFault_75 (lv_at hl 0 rfl) ?_
          refine lv_if_eq hx hb d_Cun_invokeFault_77 rfl (fun h => absurd h (by decide)) (fun _ => ?_)
          refine lv_aload_n hx hb d_Cun_invokeFault_80 rfl (lv_at hl 2 rfl) ?_
          refine q_get S hw ly_Ins 14 rfl rfl 6 (by decide) tb_1_162 rfl rfl d_Cun_invokeFault_81 ?_
          refine lv_goto hx hb d_Cun_invokeFault_84 rfl ?_
          refine lv_iconst (v := 3) hx hb d_Cun_invokeFault_91 (by decide) ?_
          refine q_cg (q_runV (As := [.int (nI (nR2 xb)), .int (3 : Int32)]) (rest := []) S (c_Sta_capabilityFault l D ti ad u pi ex de xi xb di db fi fb ob reg kq ca va fv R (nR2 xb) (3 : Int32)) (cw_v hts tb_3_225 k_Sta_capabilityFault rfl rfl ⟨by decide, by decide⟩) hw 16 rfl rfl rfl hl.1 rfl (Nat.le_of_ble_eq_true rfl) d_Cun_invokeFault_92 ⟨Nat.zero_le _, Nat.zero_le _⟩) hw (fun z hD => qD_same hD rfl) (fun z9 H locs hp9 hw => ?_)
          refine W.eq (g2 := F0 m9 95 ls [.int (28 : Int32)]) rfl ?_
          have hw : Lv _ _ _ _ _ (CW ad ti u pi ex de xi xb di db fi fb ob reg kq ca va (32 * nI (nR2 xb) + (3 : Int32)) R) _ _ _ := hw
          exact hw.riz S hr hlk (rfl) d_Cun_invokeFault_95 () (by simp [ivF, ivW, ivK, h4, h11, h47, Int32.not_lt.mp h68]) (trivial) (by simp [ivF, ivW, ivK, h4, h11, h47, Int32.not_lt.mp h68])
    · refine lv_aload_n hx hb d_Cun_invokeFault_14 rfl (lv_at hl 0 rfl) ?_
      refine q_get S hw ly_Cun 19 rfl rfl 0 (by decide) tb_2_56 rfl rfl d_Cun_invokeFault_15 ?_
      refine lv_aload_n hx hb d_Cun_invokeFault_18 rfl (lv_at hl 2 rfl) ?_
      refine q_get S hw ly_Cap (21 + (nR1 xb)) (CW_at (by first | decide | omega)) rfl 0 (by decide) tb_1_46 rfl rfl d_Cun_invokeFault_19 ?_
      refine q_ifz_eq S d_Cun_invokeFault_22 rfl (fun h22 => ?_) (fun h22 => ?_)
      · rw [h4] at h22
        exact absurd h22 (by decide)
      · refine lv_aload_n hx hb d_Cun_invokeFault_25 rfl (lv_at hl 1 rfl) ?_
        refine q_get S hw ly_Ins 14 rfl rfl 6 (by decide) tb_1_162 rfl rfl d_Cun_invokeFault_26 ?_
        refine lv_goto hx hb d_Cun_invokeFault_29 rfl ?_
        refine lv_iconst (v := 2) hx hb d_Cun_invokeFault_36 (by decide) ?_
        refine q_cg (q_runV (As := [.int (nI (nR2 xb)), .int (2 : Int32)]) (rest := []) S (c_Sta_capabilityFault l D ti ad u pi ex de xi xb di db fi fb ob reg kq ca va fv R (nR2 xb) (2 : Int32)) (cw_v hts tb_3_225 k_Sta_capabilityFault rfl rfl ⟨by decide, by decide⟩) hw 16 rfl rfl rfl hl.1 rfl (Nat.le_of_ble_eq_true rfl) d_Cun_invokeFault_37 ⟨Nat.zero_le _, Nat.zero_le _⟩) hw (fun z hD => qD_same hD rfl) (fun z9 H locs hp9 hw => ?_)
        refine W.eq (g2 := F0 m9 40 ls [.int (28 : Int32)]) rfl ?_
        have hw : Lv _ _ _ _ _ (CW ad ti u pi ex de xi xb di db fi fb ob reg kq ca va (32 * nI (nR2 xb) + (2 : Int32)) R) _ _ _ := hw
        exact hw.riz S hr hlk (rfl) d_Cun_invokeFault_40 () (by simp [ivF, ivW, ivK, h4, h11, h22]) (trivial) (by simp [ivF, ivW, ivK, h4, h11, h22])
set_option maxHeartbeats 4000000 in
set_option maxRecDepth 100000 in
theorem c_Cun_invoke (l : Launch) (D : va_G) (ti : Nat → ClassId) (ad : Nat → Nat) (u : MT) (pi ex de : Nat) (xi xb di db fi fb : Int32) (ob reg : Nat → Nat) (kq : Int32 × Bool × Bool × Int32 × Int64) (ca va fv : Int32) (R : Nat → Cap) : Cg l y_Cun_invoke (wl y_Cun_invoke b_Cun_invoke 6 (some .int)) (rmL 3) D clz (ty4 ti) [.ref (ob 3), .ref ex, .ref (reg (nR1 xb)), .ref (reg (nR2 xb))] (CW ad ti u pi ex de xi xb di db fi fb ob reg kq ca va fv R) (fun _ : Unit => some (.int (xIv fv R xb).1)) (fun _ => (CW ad ti u pi ex de xi xb di db fi fb ob reg kq ca va ((xIv fv R xb).2.1) ((xIv fv R xb).2.2))) (fun _ => True) := by
  refine Cg.ofF (plainFor_of_name (by decide)) (Nat.le_of_ble_eq_true rfl) ?_
  intro p9 e9 s9 m9 b9 me9 c9 ls S hr hlk hl hw
  obtain ⟨hx, hb, hml, hown, hts⟩ := id S
  have hl : lv_has ls 6 [(0, .ref (ob 3)), (1, .ref ex), (2, .ref (reg (nR1 xb))), (3, .ref (reg (nR2 xb)))] := hl
  have hr1 := nR1_lt xb
  have hr2 := nR2_lt xb
  have hrd := nRd_lt xb
  have hn32 : nR2 xb ≠ 32 := by omega
  refine lv_aload_n hx hb d_Cun_invoke_0 rfl (lv_at hl 2 rfl) ?_
  refine q_get S hw ly_Cap (21 + (nR1 xb)) (CW_at (by first | decide | omega)) rfl 1 (by decide) tb_1_51 rfl rfl d_Cun_invoke_1 ?_
  refine lv_bipush (v := -2) hx hb d_Cun_invoke_4 (by decide) ?_
  refine lv_iand hx hb d_Cun_invoke_6 ?_
  refine q_topi (z := (ivX R xb)) (rfl) ?_
  refine lv_istore (lv' := [(4, .int (ivX R xb)), (0, .ref (ob 3)), (1, .ref ex), (2, .ref (reg (nR1 xb))), (3, .ref (reg (nR2 xb)))]) hx hb d_Cun_invoke_7 hl (by decide) rfl (fun ls hl => ?_)
  refine lv_aload_n hx hb d_Cun_invoke_9 rfl (lv_at hl 1 rfl) ?_
  refine lv_aload_n hx hb d_Cun_invoke_10 rfl (lv_at hl 2 rfl) ?_
  refine lv_aload_n hx hb d_Cun_invoke_11 rfl (lv_at hl 3 rfl) ?_
  refine lv_aload_n hx hb d_Cun_invoke_12 rfl (lv_at hl 4 rfl) ?_
  refine q_cg (q_runV (As := [.ref ex, .ref (reg (nR1 xb)), .ref (reg (nR2 xb))]) (rest := []) S (c_Cun_invokeFault l D ti ad u pi ex de xi xb di db fi fb ob reg kq ca va fv R) (cw_v hts tb_4_67 k_Cun_invokeFault rfl rfl ⟨by decide, by decide⟩) hw 19 rfl rfl rfl hl.1 rfl (Nat.le_of_ble_eq_true rfl) d_Cun_invoke_13 ⟨Nat.zero_le _, Nat.zero_le _⟩) hw (fun z hD => qD_same hD rfl) (fun z9 H locs hp9 hw => ?_)
  refine W.eq (g2 := F0 m9 16 ls [.int ((ivF fv R xb).1)]) rfl ?_
  have hw : Lv _ _ _ _ _ (CW ad ti u pi ex de xi xb di db fi fb ob reg kq ca va ((ivF fv R xb).2) R) _ _ _ := hw
  refine lv_istore (lv' := [(5, .int ((ivF fv R xb).1)), (4, .int (ivX R xb)), (0, .ref (ob 3)), (1, .ref ex), (2, .ref (reg (nR1 xb))), (3, .ref (reg (nR2 xb)))]) hx hb d_Cun_invoke_16 hl (by decide) rfl (fun ls hl => ?_)
  refine lv_iload hx hb d_Cun_invoke_18 (lv_at hl 0 rfl) ?_
  refine lv_iconst (v := -1) hx hb d_Cun_invoke_20 (by decide) ?_
  refine lv_icmp_eq hx hb d_Cun_invoke_21 rfl (fun h21 => ?_) (fun h21 => ?_)
  · refine lv_aload_n hx hb d_Cun_invoke_27 rfl (lv_at hl 4 rfl) ?_
    refine lv_iload hx hb d_Cun_invoke_28 (lv_at hl 1 rfl) ?_
    refine lv_ldc2 (v := 4) hx hb hown (hts _ tb_4_71) d_Cun_invoke_30 ?_
    refine q_cr (q_runV (As := [.int (ivX R xb), .long (4 : Int64)]) (rest := []) S (w_covers l D ti ad u pi ex de xi xb di db fi fb ob reg kq ca va ((ivF fv R xb).2) R (nR1 xb) (by first | decide | omega) (ivX R xb) (4 : Int64)) (cw_v hts tb_4_3 k_Cap_covers rfl rfl ⟨by decide, by decide⟩) hw (21 + (nR1 xb)) (CW_at (by first | decide | omega)) rfl rfl hl.1 rfl (Nat.le_of_ble_eq_true rfl) d_Cun_invoke_33 ⟨Nat.zero_le _, Nat.zero_le _⟩) ?_
    refine W.eq (g2 := F0 m9 36 ls [.int (jb (cCov (cbase (R (nR1 xb)).2.2 (R (nR1 xb)).2.1) (ctop (R (nR1 xb)).2.2 (R (nR1 xb)).2.1) (ivX R xb) (4 : Int64)))]) rfl ?_
    refine q_ifz_ne S d_Cun_invoke_36 rfl (fun h36 => ?_) (fun h36 => ?_)
    · refine lv_iload hx hb d_Cun_invoke_52 (lv_at hl 1 rfl) ?_
      refine lv_iconst (v := 3) hx hb d_Cun_invoke_54 (by decide) ?_
      refine lv_iand hx hb d_Cun_invoke_55 ?_
      refine lv_if_eq hx hb d_Cun_invoke_56 rfl (fun h56 => ?_) (fun h56 => ?_)
      · refine lv_aload_n hx hb d_Cun_invoke_70 rfl (lv_at hl 2 rfl) ?_
        refine q_get S hw ly_Cun 19 rfl rfl 0 (by decide) tb_2_56 rfl rfl d_Cun_invoke_71 ?_
        refine q_get S hw ly_Sta 16 rfl rfl 1 (by decide) tb_1_212 rfl rfl d_Cun_invoke_74 ?_
        refine lv_aload_n hx hb d_Cun_invoke_77 rfl (lv_at hl 4 rfl) ?_
        refine q_cg (q_runV (As := [.ref (reg (nR1 xb))]) (rest := []) S (w_become l D ti ad u pi ex de xi xb di db fi fb ob reg kq ca va ((ivF fv R xb).2) R (32) (by first | decide | omega) (nR1 xb) (by first | decide | omega) (by first | decide | omega)) (cw_v hts tb_3_226 k_Cap_become rfl rfl ⟨by decide, by decide⟩) hw (21 + (32)) (CW_at (by first | decide | omega)) rfl rfl hl.1 rfl (Nat.le_of_ble_eq_true rfl) d_Cun_invoke_78 ⟨Nat.zero_le _, Nat.zero_le _⟩) hw (fun z hD => CW_D hD) (fun z9 H locs hp9 hw => ?_)
        refine W.eq (g2 := F0 m9 81 ls []) rfl ?_
        have hw : Lv _ _ _ _ _ (CW ad ti u pi ex de xi xb di db fi fb ob reg kq ca va ((ivF fv R xb).2) (va_up R (32) (R (nR1 xb)))) _ _ _ := hw
        refine lv_aload_n hx hb d_Cun_invoke_81 rfl (lv_at hl 2 rfl) ?_
        refine q_get S hw ly_Cun 19 rfl rfl 0 (by decide) tb_2_56 rfl rfl d_Cun_invoke_82 ?_
        refine q_get S hw ly_Sta 16 rfl rfl 1 (by decide) tb_1_212 rfl rfl d_Cun_invoke_85 ?_
        refine lv_bipush (v := 15) hx hb d_Cun_invoke_88 (by decide) ?_
        refine q_cg (q_runV (As := [.int (15 : Int32)]) (rest := []) S (w_setType l D ti ad u pi ex de xi xb di db fi fb ob reg kq ca va ((ivF fv R xb).2) (va_up R (32) (R (nR1 xb))) (32) (by first | decide | omega) (15 : Int32)) (cw_v hts tb_4_15 k_Cap_setType rfl rfl ⟨by decide, by decide⟩) hw (21 + (32)) (CW_at (by first | decide | omega)) rfl rfl hl.1 rfl (Nat.le_of_ble_eq_true rfl) d_Cun_invoke_90 ⟨Nat.zero_le _, Nat.zero_le _⟩) hw (fun z hD => CW_D hD) (fun z9 H locs hp9 hw => ?_)
        refine W.eq (g2 := F0 m9 93 ls []) rfl ?_
        have hw : Lv _ _ _ _ _ (CW ad ti u pi ex de xi xb di db fi fb ob reg kq ca va ((ivF fv R xb).2) (va_up (va_up R (32) (R (nR1 xb))) (32) (cTyC ((va_up R (32) (R (nR1 xb))) 32) (15 : Int32)))) _ _ _ := hw
        refine lv_aload_n hx hb d_Cun_invoke_93 rfl (lv_at hl 2 rfl) ?_
        refine q_get S hw ly_Cun 19 rfl rfl 0 (by decide) tb_2_56 rfl rfl d_Cun_invoke_94 ?_
        refine q_get S hw ly_Sta 16 rfl rfl 1 (by decide) tb_1_212 rfl rfl d_Cun_invoke_97 ?_
        refine lv_iload hx hb d_Cun_invoke_100 (lv_at hl 1 rfl) ?_
        refine q_cg (q_runV (As := [.int (ivX R xb)]) (rest := []) S (w_moveTo l D ti ad u pi ex de xi xb di db fi fb ob reg kq ca va ((ivF fv R xb).2) (va_up (va_up R (32) (R (nR1 xb))) (32) (cTyC ((va_up R (32) (R (nR1 xb))) 32) (15 : Int32))) (32) (by first | decide | omega) (ivX R xb)) (cw_v hts tb_4_39 k_Cap_moveTo rfl rfl ⟨by decide, by decide⟩) hw (21 + (32)) (CW_at (by first | decide | omega)) rfl rfl hl.1 rfl (Nat.le_of_ble_eq_true rfl) d_Cun_invoke_102 ⟨Nat.zero_le _, Nat.zero_le _⟩) hw (fun z hD => CW_D hD) (fun z9 H locs hp9 hw => ?_)
        refine W.eq (g2 := F0 m9 105 ls []) rfl ?_
        have hw : Lv _ _ _ _ _ (CW ad ti u pi ex de xi xb di db fi fb ob reg kq ca va ((ivF fv R xb).2) (va_up (va_up (va_up R (32) (R (nR1 xb))) (32) (cTyC ((va_up R (32) (R (nR1 xb))) 32) (15 : Int32))) (32) (cMvC ((va_up (va_up R (32) (R (nR1 xb))) (32) (cTyC ((va_up R (32) (R (nR1 xb))) 32) (15 : Int32))) 32) (ivX R xb)))) _ _ _ := hw
        refine lv_aload_n hx hb d_Cun_invoke_105 rfl (lv_at hl 2 rfl) ?_
        refine q_get S hw ly_Cun 19 rfl rfl 0 (by decide) tb_2_56 rfl rfl d_Cun_invoke_106 ?_
        refine q_get S hw ly_Sta 16 rfl rfl 2 (by decide) tb_1_216 rfl rfl d_Cun_invoke_109 ?_
        refine lv_aload_n hx hb d_Cun_invoke_112 rfl (lv_at hl 5 rfl) ?_
        refine q_cg (q_runV (As := [.ref (reg (nR2 xb))]) (rest := []) S (w_become l D ti ad u pi ex de xi xb di db fi fb ob reg kq ca va ((ivF fv R xb).2) (va_up (va_up (va_up R (32) (R (nR1 xb))) (32) (cTyC ((va_up R (32) (R (nR1 xb))) 32) (15 : Int32))) (32) (cMvC ((va_up (va_up R (32) (R (nR1 xb))) (32) (cTyC ((va_up R (32) (R (nR1 xb))) 32) (15 : Int32))) 32) (ivX R xb))) (37) (by first | decide | omega) (nR2 xb) (by first | decide | omega) (by first | decide | omega)) (cw_v hts tb_3_226 k_Cap_become rfl rfl ⟨by decide, by decide⟩) hw (21 + (37)) (CW_at (by first | decide | omega)) rfl rfl hl.1 rfl (Nat.le_of_ble_eq_true rfl) d_Cun_invoke_113 ⟨Nat.zero_le _, Nat.zero_le _⟩) hw (fun z hD => CW_D hD) (fun z9 H locs hp9 hw => ?_)
        refine W.eq (g2 := F0 m9 116 ls []) rfl ?_
        have hw : Lv _ _ _ _ _ (CW ad ti u pi ex de xi xb di db fi fb ob reg kq ca va ((ivF fv R xb).2) (va_up (va_up (va_up (va_up R (32) (R (nR1 xb))) (32) (cTyC ((va_up R (32) (R (nR1 xb))) 32) (15 : Int32))) (32) (cMvC ((va_up (va_up R (32) (R (nR1 xb))) (32) (cTyC ((va_up R (32) (R (nR1 xb))) 32) (15 : Int32))) 32) (ivX R xb))) (37) ((va_up (va_up (va_up R (32) (R (nR1 xb))) (32) (cTyC ((va_up R (32) (R (nR1 xb))) 32) (15 : Int32))) (32) (cMvC ((va_up (va_up R (32) (R (nR1 xb))) (32) (cTyC ((va_up R (32) (R (nR1 xb))) 32) (15 : Int32))) 32) (ivX R xb))) (nR2 xb)))) _ _ _ := hw
        refine lv_aload_n hx hb d_Cun_invoke_116 rfl (lv_at hl 2 rfl) ?_
        refine q_get S hw ly_Cun 19 rfl rfl 0 (by decide) tb_2_56 rfl rfl d_Cun_invoke_117 ?_
        refine q_get S hw ly_Sta 16 rfl rfl 2 (by decide) tb_1_216 rfl rfl d_Cun_invoke_120 ?_
        refine lv_bipush (v := 15) hx hb d_Cun_invoke_123 (by decide) ?_
        refine q_cg (q_runV (As := [.int (15 : Int32)]) (rest := []) S (w_setType l D ti ad u pi ex de xi xb di db fi fb ob reg kq ca va ((ivF fv R xb).2) (va_up (va_up (va_up (va_up R (32) (R (nR1 xb))) (32) (cTyC ((va_up R (32) (R (nR1 xb))) 32) (15 : Int32))) (32) (cMvC ((va_up (va_up R (32) (R (nR1 xb))) (32) (cTyC ((va_up R (32) (R (nR1 xb))) 32) (15 : Int32))) 32) (ivX R xb))) (37) ((va_up (va_up (va_up R (32) (R (nR1 xb))) (32) (cTyC ((va_up R (32) (R (nR1 xb))) 32) (15 : Int32))) (32) (cMvC ((va_up (va_up R (32) (R (nR1 xb))) (32) (cTyC ((va_up R (32) (R (nR1 xb))) 32) (15 : Int32))) 32) (ivX R xb))) (nR2 xb))) (37) (by first | decide | omega) (15 : Int32)) (cw_v hts tb_4_15 k_Cap_setType rfl rfl ⟨by decide, by decide⟩) hw (21 + (37)) (CW_at (by first | decide | omega)) rfl rfl hl.1 rfl (Nat.le_of_ble_eq_true rfl) d_Cun_invoke_125 ⟨Nat.zero_le _, Nat.zero_le _⟩) hw (fun z hD => CW_D hD) (fun z9 H locs hp9 hw => ?_)
        refine W.eq (g2 := F0 m9 128 ls []) rfl ?_
        have hw : Lv _ _ _ _ _ (CW ad ti u pi ex de xi xb di db fi fb ob reg kq ca va ((ivF fv R xb).2) (va_up (va_up (va_up (va_up (va_up R (32) (R (nR1 xb))) (32) (cTyC ((va_up R (32) (R (nR1 xb))) 32) (15 : Int32))) (32) (cMvC ((va_up (va_up R (32) (R (nR1 xb))) (32) (cTyC ((va_up R (32) (R (nR1 xb))) 32) (15 : Int32))) 32) (ivX R xb))) (37) ((va_up (va_up (va_up R (32) (R (nR1 xb))) (32) (cTyC ((va_up R (32) (R (nR1 xb))) 32) (15 : Int32))) (32) (cMvC ((va_up (va_up R (32) (R (nR1 xb))) (32) (cTyC ((va_up R (32) (R (nR1 xb))) 32) (15 : Int32))) 32) (ivX R xb))) (nR2 xb))) (37) (cTyC ((va_up (va_up (va_up (va_up R (32) (R (nR1 xb))) (32) (cTyC ((va_up R (32) (R (nR1 xb))) 32) (15 : Int32))) (32) (cMvC ((va_up (va_up R (32) (R (nR1 xb))) (32) (cTyC ((va_up R (32) (R (nR1 xb))) 32) (15 : Int32))) 32) (ivX R xb))) (37) ((va_up (va_up (va_up R (32) (R (nR1 xb))) (32) (cTyC ((va_up R (32) (R (nR1 xb))) 32) (15 : Int32))) (32) (cMvC ((va_up (va_up R (32) (R (nR1 xb))) (32) (cTyC ((va_up R (32) (R (nR1 xb))) 32) (15 : Int32))) 32) (ivX R xb))) (nR2 xb))) 37) (15 : Int32)))) _ _ _ := hw
        refine lv_aload_n hx hb d_Cun_invoke_128 rfl (lv_at hl 2 rfl) ?_
        refine q_get S hw ly_Cun 19 rfl rfl 0 (by decide) tb_2_56 rfl rfl d_Cun_invoke_129 ?_
        refine lv_bipush (v := 31) hx hb d_Cun_invoke_132 (by decide) ?_
        refine q_cg (q_runV (As := [.int (31 : Int32)]) (rest := []) S (c_Sta_answer l D ti ad u pi ex de xi xb di db fi fb ob reg kq ca va ((ivF fv R xb).2) (va_up (va_up (va_up (va_up (va_up R (32) (R (nR1 xb))) (32) (cTyC ((va_up R (32) (R (nR1 xb))) 32) (15 : Int32))) (32) (cMvC ((va_up (va_up R (32) (R (nR1 xb))) (32) (cTyC ((va_up R (32) (R (nR1 xb))) 32) (15 : Int32))) 32) (ivX R xb))) (37) ((va_up (va_up (va_up R (32) (R (nR1 xb))) (32) (cTyC ((va_up R (32) (R (nR1 xb))) 32) (15 : Int32))) (32) (cMvC ((va_up (va_up R (32) (R (nR1 xb))) (32) (cTyC ((va_up R (32) (R (nR1 xb))) 32) (15 : Int32))) 32) (ivX R xb))) (nR2 xb))) (37) (cTyC ((va_up (va_up (va_up (va_up R (32) (R (nR1 xb))) (32) (cTyC ((va_up R (32) (R (nR1 xb))) 32) (15 : Int32))) (32) (cMvC ((va_up (va_up R (32) (R (nR1 xb))) (32) (cTyC ((va_up R (32) (R (nR1 xb))) 32) (15 : Int32))) 32) (ivX R xb))) (37) ((va_up (va_up (va_up R (32) (R (nR1 xb))) (32) (cTyC ((va_up R (32) (R (nR1 xb))) 32) (15 : Int32))) (32) (cMvC ((va_up (va_up R (32) (R (nR1 xb))) (32) (cTyC ((va_up R (32) (R (nR1 xb))) 32) (15 : Int32))) 32) (ivX R xb))) (nR2 xb))) 37) (15 : Int32))) 31 (by first | decide | omega)) (cw_v hts tb_3_227 k_Sta_answer rfl rfl ⟨by decide, by decide⟩) hw 16 rfl rfl rfl hl.1 rfl (Nat.le_of_ble_eq_true rfl) d_Cun_invoke_134 ⟨Nat.zero_le _, Nat.zero_le _⟩) hw (fun z hD => CW_D (qD_same hD rfl)) (fun z9 H locs hp9 hw => ?_)
        refine W.eq (g2 := F0 m9 137 ls [.int (-1 : Int32)]) rfl ?_
        have hw : Lv _ _ _ _ _ (CW ad ti u pi ex de xi xb di db fi fb ob reg kq ca va ((ivF fv R xb).2) (aR (va_up (va_up (va_up (va_up (va_up R (32) (R (nR1 xb))) (32) (cTyC ((va_up R (32) (R (nR1 xb))) 32) (15 : Int32))) (32) (cMvC ((va_up (va_up R (32) (R (nR1 xb))) (32) (cTyC ((va_up R (32) (R (nR1 xb))) 32) (15 : Int32))) 32) (ivX R xb))) (37) ((va_up (va_up (va_up R (32) (R (nR1 xb))) (32) (cTyC ((va_up R (32) (R (nR1 xb))) 32) (15 : Int32))) (32) (cMvC ((va_up (va_up R (32) (R (nR1 xb))) (32) (cTyC ((va_up R (32) (R (nR1 xb))) 32) (15 : Int32))) 32) (ivX R xb))) (nR2 xb))) (37) (cTyC ((va_up (va_up (va_up (va_up R (32) (R (nR1 xb))) (32) (cTyC ((va_up R (32) (R (nR1 xb))) 32) (15 : Int32))) (32) (cMvC ((va_up (va_up R (32) (R (nR1 xb))) (32) (cTyC ((va_up R (32) (R (nR1 xb))) 32) (15 : Int32))) 32) (ivX R xb))) (37) ((va_up (va_up (va_up R (32) (R (nR1 xb))) (32) (cTyC ((va_up R (32) (R (nR1 xb))) 32) (15 : Int32))) (32) (cMvC ((va_up (va_up R (32) (R (nR1 xb))) (32) (cTyC ((va_up R (32) (R (nR1 xb))) 32) (15 : Int32))) 32) (ivX R xb))) (nR2 xb))) 37) (15 : Int32))) 31)) _ _ _ := hw
        refine lv_pop hx hb d_Cun_invoke_137 rfl ?_
        refine lv_bipush (v := -2) hx hb d_Cun_invoke_138 (by decide) ?_
        exact hw.riz S hr hlk (rfl) d_Cun_invoke_140 () (by unfold xIv; rw [if_pos h21, if_pos h36, if_pos h56]) (trivial) (by unfold xIv; rw [if_pos h21, if_pos h36, if_pos h56]; simp [ivR, up_up, va_up_self, va_up_ne, hn32])
      · refine lv_aload_n hx hb d_Cun_invoke_59 rfl (lv_at hl 2 rfl) ?_
        refine q_get S hw ly_Cun 19 rfl rfl 0 (by decide) tb_2_56 rfl rfl d_Cun_invoke_60 ?_
        refine lv_iconst (v := 0) hx hb d_Cun_invoke_63 (by decide) ?_
        refine lv_iload hx hb d_Cun_invoke_64 (lv_at hl 1 rfl) ?_
        refine q_cg (q_runV (As := [.int (0 : Int32), .int (ivX R xb)]) (rest := []) S (c_Sta_fault l D ti ad u pi ex de xi xb di db fi fb ob reg kq ca va ((ivF fv R xb).2) R (0 : Int32) (ivX R xb)) (cw_v hts tb_4_72 k_Sta_fault rfl rfl ⟨by decide, by decide⟩) hw 16 rfl rfl rfl hl.1 rfl (Nat.le_of_ble_eq_true rfl) d_Cun_invoke_66 ⟨Nat.zero_le _, Nat.zero_le _⟩) hw (fun z hD => qD_same hD rfl) (fun z9 H locs hp9 hw => ?_)
        refine W.eq (g2 := F0 m9 69 ls [.int (0 : Int32)]) rfl ?_
        have hw : Lv _ _ _ _ _ (CW ad ti u pi ex de xi xb di db fi fb ob reg kq ca va (ivX R xb) R) _ _ _ := hw
        exact hw.riz S hr hlk (rfl) d_Cun_invoke_69 () (by unfold xIv; rw [if_pos h21, if_pos h36, if_neg h56]) (trivial) (by unfold xIv; rw [if_pos h21, if_pos h36, if_neg h56])
    · refine lv_aload_n hx hb d_Cun_invoke_39 rfl (lv_at hl 2 rfl) ?_
      refine q_get S hw ly_Cun 19 rfl rfl 0 (by decide) tb_2_56 rfl rfl d_Cun_invoke_40 ?_
      refine lv_aload_n hx hb d_Cun_invoke_43 rfl (lv_at hl 3 rfl) ?_
      refine q_get S hw ly_Ins 14 rfl rfl 5 (by decide) tb_1_159 rfl rfl d_Cun_invoke_44 ?_
      refine lv_iconst (v := 1) hx hb d_Cun_invoke_47 (by decide) ?_
      refine q_cg (q_runV (As := [.int (nI (nR1 xb)), .int (1 : Int32)]) (rest := []) S (c_Sta_capabilityFault l D ti ad u pi ex de xi xb di db fi fb ob reg kq ca va ((ivF fv R xb).2) R (nR1 xb) (1 : Int32)) (cw_v hts tb_3_225 k_Sta_capabilityFault rfl rfl ⟨by decide, by decide⟩) hw 16 rfl rfl rfl hl.1 rfl (Nat.le_of_ble_eq_true rfl) d_Cun_invoke_48 ⟨Nat.zero_le _, Nat.zero_le _⟩) hw (fun z hD => qD_same hD rfl) (fun z9 H locs hp9 hw => ?_)
      refine W.eq (g2 := F0 m9 51 ls [.int (28 : Int32)]) rfl ?_
      have hw : Lv _ _ _ _ _ (CW ad ti u pi ex de xi xb di db fi fb ob reg kq ca va (32 * nI (nR1 xb) + (1 : Int32)) R) _ _ _ := hw
      exact hw.riz S hr hlk (rfl) d_Cun_invoke_51 () (by unfold xIv; rw [if_pos h21, if_neg (show ¬ cCov _ _ _ _ = true by rw [h36]; decide)]) (trivial) (by unfold xIv; rw [if_pos h21, if_neg (show ¬ cCov _ _ _ _ = true by rw [h36]; decide)])
  · refine lv_iload hx hb d_Cun_invoke_24 (lv_at hl 0 rfl) ?_
    exact hw.riz S hr hlk (rfl) d_Cun_invoke_26 () (by unfold xIv; rw [if_neg h21]) (trivial) (by unfold xIv; rw [if_neg h21])
set_option maxHeartbeats 4000000 in
set_option maxRecDepth 100000 in
theorem c_Cun_inspect (l : Launch) (D : va_G) (ti : Nat → ClassId) (ad : Nat → Nat) (u : MT) (pi ex de : Nat) (xi xb di db fi fb : Int32) (ob reg : Nat → Nat) (kq : Int32 × Bool × Bool × Int32 × Int64) (ca va fv : Int32) (R : Nat → Cap) : Cg l y_Cun_inspect (wl y_Cun_inspect b_Cun_inspect 3 (some .int)) (rmL 4) D clz (ty4 ti) [.ref (ob 3), .ref ex, .ref (reg (nR1 xb))] (CW ad ti u pi ex de xi xb di db fi fb ob reg kq ca va fv R) (fun z : Int32 × Bool × Bool × Int32 × Int64 => some (.int (xIn fv R (R (nR1 xb)) xb).1)) (fun z => (CW ad ti u pi ex de xi xb di db fi fb ob reg z ca va ((xIn fv R (R (nR1 xb)) xb).2.1) ((xIn fv R (R (nR1 xb)) xb).2.2))) (fun _ => True) := by
  refine Cg.ofF (plainFor_of_name (by decide)) (Nat.le_of_ble_eq_true rfl) ?_
  intro p9 e9 s9 m9 b9 me9 c9 ls S hr hlk hl hw
  obtain ⟨hx, hb, hml, hown, hts⟩ := id S
  have hl : lv_has ls 3 [(0, .ref (ob 3)), (1, .ref ex), (2, .ref (reg (nR1 xb)))] := hl
  have hr1 := nR1_lt xb
  have hr2 := nR2_lt xb
  have hrd := nRd_lt xb
  refine lv_aload_n hx hb d_Cun_inspect_0 rfl (lv_at hl 1 rfl) ?_
  refine q_get S hw ly_Ins 14 rfl rfl 6 (by decide) tb_1_162 rfl rfl d_Cun_inspect_1 ?_
  refine q_topi (z := (nI (nR2 xb))) rfl ?_
  by_cases hc4_0 : (nI (nR2 xb)) = (0 : Int32)
  · refine lv_tableIn hx hb d_Cun_inspect_4 (by rw [hc4_0]; decide) (by rw [hc4_0]; decide) (by rw [hc4_0]; rfl) rfl ?_
    refine lv_aload_n hx hb d_Cun_inspect_116 rfl (lv_at hl 0 rfl) ?_
    refine q_get S hw ly_Cun 19 rfl rfl 0 (by decide) tb_2_56 rfl rfl d_Cun_inspect_117 ?_
    refine lv_aload_n hx hb d_Cun_inspect_120 rfl (lv_at hl 1 rfl) ?_
    refine q_get S hw ly_Ins 14 rfl rfl 3 (by decide) tb_1_155 rfl rfl d_Cun_inspect_121 ?_
    refine lv_aload_n hx hb d_Cun_inspect_124 rfl (lv_at hl 2 rfl) ?_
    refine q_cr (q_runV (As := []) (rest := [.int (nI (nRd xb)), .ref (ob 0)]) S (w_perms l D ti ad u pi ex de xi xb di db fi fb ob reg kq ca va fv R (nR1 xb) (by first | decide | omega)) (cw_v hts tb_4_25 k_Cap_perms rfl rfl ⟨by decide, by decide⟩) hw (21 + (nR1 xb)) (CW_at (by first | decide | omega)) rfl rfl hl.1 rfl (Nat.le_of_ble_eq_true rfl) d_Cun_inspect_125 ⟨Nat.zero_le _, Nat.zero_le _⟩) ?_
    refine W.eq (g2 := F0 m9 128 ls [.int (cPerms (R (nR1 xb)).2.2), .int (nI (nRd xb)), .ref (ob 0)]) rfl ?_
    refine q_cg (q_runV (As := [.int (nI (nRd xb)), .int (cPerms (R (nR1 xb)).2.2)]) (rest := []) S (c_Sta_answerNumber l D ti ad u pi ex de xi xb di db fi fb ob reg kq ca va fv R (nRd xb) (by first | decide | omega) (cPerms (R (nR1 xb)).2.2)) (cw_v hts tb_4_44 k_Sta_answerNumber rfl rfl ⟨by decide, by decide⟩) hw 16 rfl rfl rfl hl.1 rfl (Nat.le_of_ble_eq_true rfl) d_Cun_inspect_128 ⟨Nat.zero_le _, Nat.zero_le _⟩) hw (fun z hD => CW_D (qD_same hD rfl)) (fun z9 H locs hp9 hw => ?_)
    refine W.eq (g2 := F0 m9 131 ls [.int (-1 : Int32)]) rfl ?_
    have hw : Lv _ _ _ _ _ (CW ad ti u pi ex de xi xb di db fi fb ob reg kq ca va fv (nR R (nRd xb) (cPerms (R (nR1 xb)).2.2))) _ _ _ := hw
    exact hw.riz S hr hlk (rfl) d_Cun_inspect_131 kq (by unfold xIn; rw [hc4_0, if_pos (show isV 0 = true by decide)]) (trivial) (by unfold xIn; rw [hc4_0, if_pos (show isV 0 = true by decide)]; simp [insV])
  by_cases hc4_1 : (nI (nR2 xb)) = (1 : Int32)
  · refine lv_tableIn hx hb d_Cun_inspect_4 (by rw [hc4_1]; decide) (by rw [hc4_1]; decide) (by rw [hc4_1]; rfl) rfl ?_
    refine lv_aload_n hx hb d_Cun_inspect_132 rfl (lv_at hl 0 rfl) ?_
    refine q_get S hw ly_Cun 19 rfl rfl 0 (by decide) tb_2_56 rfl rfl d_Cun_inspect_133 ?_
    refine lv_aload_n hx hb d_Cun_inspect_136 rfl (lv_at hl 1 rfl) ?_
    refine q_get S hw ly_Ins 14 rfl rfl 3 (by decide) tb_1_155 rfl rfl d_Cun_inspect_137 ?_
    refine q_join (pcJ := 163) (st := [.int (if cType (R (nR1 xb)).2.2 < 14 then cType (R (nR1 xb)).2.2 else cType (R (nR1 xb)).2.2 - 16), .int (nI (nRd xb)), .ref (ob 0)]) (lv' := [(0, .ref (ob 3)), (1, .ref ex), (2, .ref (reg (nR1 xb)))]) (nL := 3) (fun ls hl => ?_) (fun J163 => ?_)
    · refine q_cg (q_runV (As := [.int (nI (nRd xb)), .int (if cType (R (nR1 xb)).2.2 < 14 then cType (R (nR1 xb)).2.2 else cType (R (nR1 xb)).2.2 - 16)]) (rest := []) S (c_Sta_answerNumber l D ti ad u pi ex de xi xb di db fi fb ob reg kq ca va fv R (nRd xb) (by first | decide | omega) (if cType (R (nR1 xb)).2.2 < 14 then cType (R (nR1 xb)).2.2 else cType (R (nR1 xb)).2.2 - 16)) (cw_v hts tb_4_44 k_Sta_answerNumber rfl rfl ⟨by decide, by decide⟩) hw 16 rfl rfl rfl hl.1 rfl (Nat.le_of_ble_eq_true rfl) d_Cun_inspect_163 ⟨Nat.zero_le _, Nat.zero_le _⟩) hw (fun z hD => CW_D (qD_same hD rfl)) (fun z9 H locs hp9 hw => ?_)
      refine W.eq (g2 := F0 m9 166 ls [.int (-1 : Int32)]) rfl ?_
      have hw : Lv _ _ _ _ _ (CW ad ti u pi ex de xi xb di db fi fb ob reg kq ca va fv (nR R (nRd xb) (if cType (R (nR1 xb)).2.2 < 14 then cType (R (nR1 xb)).2.2 else cType (R (nR1 xb)).2.2 - 16))) _ _ _ := hw
      exact hw.riz S hr hlk (rfl) d_Cun_inspect_166 kq (by unfold xIn; rw [hc4_1, if_pos (show isV 1 = true by decide)]) (trivial) (by unfold xIn; rw [hc4_1, if_pos (show isV 1 = true by decide)]; simp [insV])
    · refine lv_aload_n hx hb d_Cun_inspect_140 rfl (lv_at hl 2 rfl) ?_
      refine q_cr (q_runV (As := []) (rest := [.int (nI (nRd xb)), .ref (ob 0)]) S (w_type l D ti ad u pi ex de xi xb di db fi fb ob reg kq ca va fv R (nR1 xb) (by first | decide | omega)) (cw_v hts tb_4_24 k_Cap_type rfl rfl ⟨by decide, by decide⟩) hw (21 + (nR1 xb)) (CW_at (by first | decide | omega)) rfl rfl hl.1 rfl (Nat.le_of_ble_eq_true rfl) d_Cun_inspect_141 ⟨Nat.zero_le _, Nat.zero_le _⟩) ?_
      refine W.eq (g2 := F0 m9 144 ls [.int (cType (R (nR1 xb)).2.2), .int (nI (nRd xb)), .ref (ob 0)]) rfl ?_
      refine lv_bipush (v := 14) hx hb d_Cun_inspect_144 (by decide) ?_
      refine lv_icmp_lt hx hb d_Cun_inspect_146 rfl (fun h146 => ?_) (fun h146 => ?_)
      · refine lv_aload_n hx hb d_Cun_inspect_159 rfl (lv_at hl 2 rfl) ?_
        refine q_cr (q_runV (As := []) (rest := [.int (nI (nRd xb)), .ref (ob 0)]) S (w_type l D ti ad u pi ex de xi xb di db fi fb ob reg kq ca va fv R (nR1 xb) (by first | decide | omega)) (cw_v hts tb_4_24 k_Cap_type rfl rfl ⟨by decide, by decide⟩) hw (21 + (nR1 xb)) (CW_at (by first | decide | omega)) rfl rfl hl.1 rfl (Nat.le_of_ble_eq_true rfl) d_Cun_inspect_160 ⟨Nat.zero_le _, Nat.zero_le _⟩) ?_
        refine W.eq (g2 := F0 m9 163 ls [.int (cType (R (nR1 xb)).2.2), .int (nI (nRd xb)), .ref (ob 0)]) rfl ?_
        refine q_topi (z := (if cType (R (nR1 xb)).2.2 < 14 then cType (R (nR1 xb)).2.2 else cType (R (nR1 xb)).2.2 - 16)) (by simp [hc4_0, hc4_1, h146]) ?_
        exact J163 _ (lv_sub (l' := [(0, .ref (ob 3)), (1, .ref ex), (2, .ref (reg (nR1 xb)))]) hl [0, 1, 2] rfl)
      · refine lv_aload_n hx hb d_Cun_inspect_149 rfl (lv_at hl 2 rfl) ?_
        refine q_cr (q_runV (As := []) (rest := [.int (nI (nRd xb)), .ref (ob 0)]) S (w_type l D ti ad u pi ex de xi xb di db fi fb ob reg kq ca va fv R (nR1 xb) (by first | decide | omega)) (cw_v hts tb_4_24 k_Cap_type rfl rfl ⟨by decide, by decide⟩) hw (21 + (nR1 xb)) (CW_at (by first | decide | omega)) rfl rfl hl.1 rfl (Nat.le_of_ble_eq_true rfl) d_Cun_inspect_150 ⟨Nat.zero_le _, Nat.zero_le _⟩) ?_
        refine W.eq (g2 := F0 m9 153 ls [.int (cType (R (nR1 xb)).2.2), .int (nI (nRd xb)), .ref (ob 0)]) rfl ?_
        refine lv_bipush (v := 16) hx hb d_Cun_inspect_153 (by decide) ?_
        refine lv_isub hx hb d_Cun_inspect_155 ?_
        refine lv_goto hx hb d_Cun_inspect_156 rfl ?_
        refine q_topi (z := (if cType (R (nR1 xb)).2.2 < 14 then cType (R (nR1 xb)).2.2 else cType (R (nR1 xb)).2.2 - 16)) (by simp [hc4_0, hc4_1, h146]) ?_
        exact J163 _ (lv_sub (l' := [(0, .ref (ob 3)), (1, .ref ex), (2, .ref (reg (nR1 xb)))]) hl [0, 1, 2] rfl)
  by_cases hc4_2 : (nI (nR2 xb)) = (2 : Int32)
  · refine lv_tableIn hx hb d_Cun_inspect_4 (by rw [hc4_2]; decide) (by rw [hc4_2]; decide) (by rw [hc4_2]; rfl) rfl ?_
    refine lv_aload_n hx hb d_Cun_inspect_167 rfl (lv_at hl 0 rfl) ?_
    refine q_get S hw ly_Cun 19 rfl rfl 0 (by decide) tb_2_56 rfl rfl d_Cun_inspect_168 ?_
    refine lv_aload_n hx hb d_Cun_inspect_171 rfl (lv_at hl 1 rfl) ?_
    refine q_get S hw ly_Ins 14 rfl rfl 3 (by decide) tb_1_155 rfl rfl d_Cun_inspect_172 ?_
    refine lv_aload_n hx hb d_Cun_inspect_175 rfl (lv_at hl 2 rfl) ?_
    refine q_get S hw ly_Cap (21 + (nR1 xb)) (CW_at (by first | decide | omega)) rfl 3 (by decide) tb_1_58 rfl rfl d_Cun_inspect_176 ?_
    refine lv_l2i (v := ((cbase (R (nR1 xb)).2.2 (R (nR1 xb)).2.1).toInt32)) hx hb d_Cun_inspect_179 rfl ?_
    refine q_cg (q_runV (As := [.int (nI (nRd xb)), .int ((cbase (R (nR1 xb)).2.2 (R (nR1 xb)).2.1).toInt32)]) (rest := []) S (c_Sta_answerNumber l D ti ad u pi ex de xi xb di db fi fb ob reg kq ca va fv R (nRd xb) (by first | decide | omega) ((cbase (R (nR1 xb)).2.2 (R (nR1 xb)).2.1).toInt32)) (cw_v hts tb_4_44 k_Sta_answerNumber rfl rfl ⟨by decide, by decide⟩) hw 16 rfl rfl rfl hl.1 rfl (Nat.le_of_ble_eq_true rfl) d_Cun_inspect_180 ⟨Nat.zero_le _, Nat.zero_le _⟩) hw (fun z hD => CW_D (qD_same hD rfl)) (fun z9 H locs hp9 hw => ?_)
    refine W.eq (g2 := F0 m9 183 ls [.int (-1 : Int32)]) rfl ?_
    have hw : Lv _ _ _ _ _ (CW ad ti u pi ex de xi xb di db fi fb ob reg kq ca va fv (nR R (nRd xb) ((cbase (R (nR1 xb)).2.2 (R (nR1 xb)).2.1).toInt32))) _ _ _ := hw
    exact hw.riz S hr hlk (rfl) d_Cun_inspect_183 kq (by unfold xIn; rw [hc4_2, if_pos (show isV 2 = true by decide)]) (trivial) (by unfold xIn; rw [hc4_2, if_pos (show isV 2 = true by decide)]; simp [insV])
  by_cases hc4_3 : (nI (nR2 xb)) = (3 : Int32)
  · refine lv_tableIn hx hb d_Cun_inspect_4 (by rw [hc4_3]; decide) (by rw [hc4_3]; decide) (by rw [hc4_3]; rfl) rfl ?_
    refine lv_aload_n hx hb d_Cun_inspect_184 rfl (lv_at hl 0 rfl) ?_
    refine q_get S hw ly_Cun 19 rfl rfl 0 (by decide) tb_2_56 rfl rfl d_Cun_inspect_185 ?_
    refine lv_aload_n hx hb d_Cun_inspect_188 rfl (lv_at hl 1 rfl) ?_
    refine q_get S hw ly_Ins 14 rfl rfl 3 (by decide) tb_1_155 rfl rfl d_Cun_inspect_189 ?_
    refine lv_aload_n hx hb d_Cun_inspect_192 rfl (lv_at hl 2 rfl) ?_
    refine q_cr (q_runV (As := []) (rest := [.int (nI (nRd xb)), .ref (ob 0)]) S (w_length l D ti ad u pi ex de xi xb di db fi fb ob reg kq ca va fv R (nR1 xb) (by first | decide | omega)) (cw_v hts tb_4_77 k_Cap_length rfl rfl ⟨by decide, by decide⟩) hw (21 + (nR1 xb)) (CW_at (by first | decide | omega)) rfl rfl hl.1 rfl (Nat.le_of_ble_eq_true rfl) d_Cun_inspect_193 ⟨Nat.zero_le _, Nat.zero_le _⟩) ?_
    refine W.eq (g2 := F0 m9 196 ls [.int (cLen (cbase (R (nR1 xb)).2.2 (R (nR1 xb)).2.1) (ctop (R (nR1 xb)).2.2 (R (nR1 xb)).2.1)), .int (nI (nRd xb)), .ref (ob 0)]) rfl ?_
    refine q_cg (q_runV (As := [.int (nI (nRd xb)), .int (cLen (cbase (R (nR1 xb)).2.2 (R (nR1 xb)).2.1) (ctop (R (nR1 xb)).2.2 (R (nR1 xb)).2.1))]) (rest := []) S (c_Sta_answerNumber l D ti ad u pi ex de xi xb di db fi fb ob reg kq ca va fv R (nRd xb) (by first | decide | omega) (cLen (cbase (R (nR1 xb)).2.2 (R (nR1 xb)).2.1) (ctop (R (nR1 xb)).2.2 (R (nR1 xb)).2.1))) (cw_v hts tb_4_44 k_Sta_answerNumber rfl rfl ⟨by decide, by decide⟩) hw 16 rfl rfl rfl hl.1 rfl (Nat.le_of_ble_eq_true rfl) d_Cun_inspect_196 ⟨Nat.zero_le _, Nat.zero_le _⟩) hw (fun z hD => CW_D (qD_same hD rfl)) (fun z9 H locs hp9 hw => ?_)
    refine W.eq (g2 := F0 m9 199 ls [.int (-1 : Int32)]) rfl ?_
    have hw : Lv _ _ _ _ _ (CW ad ti u pi ex de xi xb di db fi fb ob reg kq ca va fv (nR R (nRd xb) (cLen (cbase (R (nR1 xb)).2.2 (R (nR1 xb)).2.1) (ctop (R (nR1 xb)).2.2 (R (nR1 xb)).2.1)))) _ _ _ := hw
    exact hw.riz S hr hlk (rfl) d_Cun_inspect_199 kq (by unfold xIn; rw [hc4_3, if_pos (show isV 3 = true by decide)]) (trivial) (by unfold xIn; rw [hc4_3, if_pos (show isV 3 = true by decide)]; simp [insV])
  by_cases hc4_4 : (nI (nR2 xb)) = (4 : Int32)
  · refine lv_tableIn hx hb d_Cun_inspect_4 (by rw [hc4_4]; decide) (by rw [hc4_4]; decide) (by rw [hc4_4]; rfl) rfl ?_
    refine lv_aload_n hx hb d_Cun_inspect_200 rfl (lv_at hl 0 rfl) ?_
    refine q_get S hw ly_Cun 19 rfl rfl 0 (by decide) tb_2_56 rfl rfl d_Cun_inspect_201 ?_
    refine lv_aload_n hx hb d_Cun_inspect_204 rfl (lv_at hl 1 rfl) ?_
    refine q_get S hw ly_Ins 14 rfl rfl 3 (by decide) tb_1_155 rfl rfl d_Cun_inspect_205 ?_
    refine q_join (pcJ := 220) (st := [.int (if (R (nR1 xb)).1 = false then 0 else 1), .int (nI (nRd xb)), .ref (ob 0)]) (lv' := [(0, .ref (ob 3)), (1, .ref ex), (2, .ref (reg (nR1 xb)))]) (nL := 3) (fun ls hl => ?_) (fun J220 => ?_)
    · refine q_cg (q_runV (As := [.int (nI (nRd xb)), .int (if (R (nR1 xb)).1 = false then 0 else 1)]) (rest := []) S (c_Sta_answerNumber l D ti ad u pi ex de xi xb di db fi fb ob reg kq ca va fv R (nRd xb) (by first | decide | omega) (if (R (nR1 xb)).1 = false then 0 else 1)) (cw_v hts tb_4_44 k_Sta_answerNumber rfl rfl ⟨by decide, by decide⟩) hw 16 rfl rfl rfl hl.1 rfl (Nat.le_of_ble_eq_true rfl) d_Cun_inspect_220 ⟨Nat.zero_le _, Nat.zero_le _⟩) hw (fun z hD => CW_D (qD_same hD rfl)) (fun z9 H locs hp9 hw => ?_)
      refine W.eq (g2 := F0 m9 223 ls [.int (-1 : Int32)]) rfl ?_
      have hw : Lv _ _ _ _ _ (CW ad ti u pi ex de xi xb di db fi fb ob reg kq ca va fv (nR R (nRd xb) (if (R (nR1 xb)).1 = false then 0 else 1))) _ _ _ := hw
      exact hw.riz S hr hlk (rfl) d_Cun_inspect_223 kq (by unfold xIn; rw [hc4_4, if_pos (show isV 4 = true by decide)]) (trivial) (by unfold xIn; rw [hc4_4, if_pos (show isV 4 = true by decide)]; simp [insV])
    · refine lv_aload_n hx hb d_Cun_inspect_208 rfl (lv_at hl 2 rfl) ?_
      refine q_get S hw ly_Cap (21 + (nR1 xb)) (CW_at (by first | decide | omega)) rfl 0 (by decide) tb_1_46 rfl rfl d_Cun_inspect_209 ?_
      refine q_ifz_eq S d_Cun_inspect_212 rfl (fun h212 => ?_) (fun h212 => ?_)
      · refine lv_iconst (v := 0) hx hb d_Cun_inspect_219 (by decide) ?_
        refine q_topi (z := (if (R (nR1 xb)).1 = false then 0 else 1)) (by simp [hc4_0, hc4_1, hc4_2, hc4_3, hc4_4, h212]) ?_
        exact J220 _ (lv_sub (l' := [(0, .ref (ob 3)), (1, .ref ex), (2, .ref (reg (nR1 xb)))]) hl [0, 1, 2] rfl)
      · refine lv_iconst (v := 1) hx hb d_Cun_inspect_215 (by decide) ?_
        refine lv_goto hx hb d_Cun_inspect_216 rfl ?_
        refine q_topi (z := (if (R (nR1 xb)).1 = false then 0 else 1)) (by simp [hc4_0, hc4_1, hc4_2, hc4_3, hc4_4, h212]) ?_
        exact J220 _ (lv_sub (l' := [(0, .ref (ob 3)), (1, .ref ex), (2, .ref (reg (nR1 xb)))]) hl [0, 1, 2] rfl)
  by_cases hc4_5 : (nI (nR2 xb)) = (5 : Int32)
  · refine lv_tableIn hx hb d_Cun_inspect_4 (by rw [hc4_5]; decide) (by rw [hc4_5]; decide) (by rw [hc4_5]; rfl) rfl ?_
    refine lv_aload_n hx hb d_Cun_inspect_224 rfl (lv_at hl 0 rfl) ?_
    refine q_get S hw ly_Cun 19 rfl rfl 0 (by decide) tb_2_56 rfl rfl d_Cun_inspect_225 ?_
    refine lv_aload_n hx hb d_Cun_inspect_228 rfl (lv_at hl 1 rfl) ?_
    refine q_get S hw ly_Ins 14 rfl rfl 3 (by decide) tb_1_155 rfl rfl d_Cun_inspect_229 ?_
    refine q_join (pcJ := 244) (st := [.int (if cOpen (R (nR1 xb)).2.2 = false then 1 else 0), .int (nI (nRd xb)), .ref (ob 0)]) (lv' := [(0, .ref (ob 3)), (1, .ref ex), (2, .ref (reg (nR1 xb)))]) (nL := 3) (fun ls hl => ?_) (fun J244 => ?_)
    · refine q_cg (q_runV (As := [.int (nI (nRd xb)), .int (if cOpen (R (nR1 xb)).2.2 = false then 1 else 0)]) (rest := []) S (c_Sta_answerNumber l D ti ad u pi ex de xi xb di db fi fb ob reg kq ca va fv R (nRd xb) (by first | decide | omega) (if cOpen (R (nR1 xb)).2.2 = false then 1 else 0)) (cw_v hts tb_4_44 k_Sta_answerNumber rfl rfl ⟨by decide, by decide⟩) hw 16 rfl rfl rfl hl.1 rfl (Nat.le_of_ble_eq_true rfl) d_Cun_inspect_244 ⟨Nat.zero_le _, Nat.zero_le _⟩) hw (fun z hD => CW_D (qD_same hD rfl)) (fun z9 H locs hp9 hw => ?_)
      refine W.eq (g2 := F0 m9 247 ls [.int (-1 : Int32)]) rfl ?_
      have hw : Lv _ _ _ _ _ (CW ad ti u pi ex de xi xb di db fi fb ob reg kq ca va fv (nR R (nRd xb) (if cOpen (R (nR1 xb)).2.2 = false then 1 else 0))) _ _ _ := hw
      exact hw.riz S hr hlk (rfl) d_Cun_inspect_247 kq (by unfold xIn; rw [hc4_5, if_pos (show isV 5 = true by decide)]) (trivial) (by unfold xIn; rw [hc4_5, if_pos (show isV 5 = true by decide)]; simp [insV])
    · refine lv_aload_n hx hb d_Cun_inspect_232 rfl (lv_at hl 2 rfl) ?_
      refine q_cr (q_runV (As := []) (rest := [.int (nI (nRd xb)), .ref (ob 0)]) S (w_isOpen l D ti ad u pi ex de xi xb di db fi fb ob reg kq ca va fv R (nR1 xb) (by first | decide | omega)) (cw_v hts tb_4_2 k_Cap_isOpen rfl rfl ⟨by decide, by decide⟩) hw (21 + (nR1 xb)) (CW_at (by first | decide | omega)) rfl rfl hl.1 rfl (Nat.le_of_ble_eq_true rfl) d_Cun_inspect_233 ⟨Nat.zero_le _, Nat.zero_le _⟩) ?_
      refine W.eq (g2 := F0 m9 236 ls [.int (jb (cOpen (R (nR1 xb)).2.2)), .int (nI (nRd xb)), .ref (ob 0)]) rfl ?_
      refine q_ifz_eq S d_Cun_inspect_236 rfl (fun h236 => ?_) (fun h236 => ?_)
      · refine lv_iconst (v := 1) hx hb d_Cun_inspect_243 (by decide) ?_
        refine q_topi (z := (if cOpen (R (nR1 xb)).2.2 = false then 1 else 0)) (by simp [hc4_0, hc4_1, hc4_2, hc4_3, hc4_4, hc4_5, h236]) ?_
        exact J244 _ (lv_sub (l' := [(0, .ref (ob 3)), (1, .ref ex), (2, .ref (reg (nR1 xb)))]) hl [0, 1, 2] rfl)
      · refine lv_iconst (v := 0) hx hb d_Cun_inspect_239 (by decide) ?_
        refine lv_goto hx hb d_Cun_inspect_240 rfl ?_
        refine q_topi (z := (if cOpen (R (nR1 xb)).2.2 = false then 1 else 0)) (by simp [hc4_0, hc4_1, hc4_2, hc4_3, hc4_4, hc4_5, h236]) ?_
        exact J244 _ (lv_sub (l' := [(0, .ref (ob 3)), (1, .ref ex), (2, .ref (reg (nR1 xb)))]) hl [0, 1, 2] rfl)
  by_cases hc4_6 : (nI (nR2 xb)) = (6 : Int32)
  · refine lv_tableIn hx hb d_Cun_inspect_4 (by rw [hc4_6]; decide) (by rw [hc4_6]; decide) (by rw [hc4_6]; rfl) rfl ?_
    refine lv_aload_n hx hb d_Cun_inspect_248 rfl (lv_at hl 0 rfl) ?_
    refine q_get S hw ly_Cun 19 rfl rfl 0 (by decide) tb_2_56 rfl rfl d_Cun_inspect_249 ?_
    refine lv_aload_n hx hb d_Cun_inspect_252 rfl (lv_at hl 1 rfl) ?_
    refine q_get S hw ly_Ins 14 rfl rfl 3 (by decide) tb_1_155 rfl rfl d_Cun_inspect_253 ?_
    refine lv_aload_n hx hb d_Cun_inspect_256 rfl (lv_at hl 2 rfl) ?_
    refine q_get S hw ly_Cap (21 + (nR1 xb)) (CW_at (by first | decide | omega)) rfl 1 (by decide) tb_1_51 rfl rfl d_Cun_inspect_257 ?_
    refine lv_aload_n hx hb d_Cun_inspect_260 rfl (lv_at hl 2 rfl) ?_
    refine q_get S hw ly_Cap (21 + (nR1 xb)) (CW_at (by first | decide | omega)) rfl 3 (by decide) tb_1_58 rfl rfl d_Cun_inspect_261 ?_
    refine lv_l2i (v := ((cbase (R (nR1 xb)).2.2 (R (nR1 xb)).2.1).toInt32)) hx hb d_Cun_inspect_264 rfl ?_
    refine lv_isub hx hb d_Cun_inspect_265 ?_
    refine q_cg (q_runV (As := [.int (nI (nRd xb)), .int (((R (nR1 xb)).2.1) - ((cbase (R (nR1 xb)).2.2 (R (nR1 xb)).2.1).toInt32))]) (rest := []) S (c_Sta_answerNumber l D ti ad u pi ex de xi xb di db fi fb ob reg kq ca va fv R (nRd xb) (by first | decide | omega) (((R (nR1 xb)).2.1) - ((cbase (R (nR1 xb)).2.2 (R (nR1 xb)).2.1).toInt32))) (cw_v hts tb_4_44 k_Sta_answerNumber rfl rfl ⟨by decide, by decide⟩) hw 16 rfl rfl rfl hl.1 rfl (Nat.le_of_ble_eq_true rfl) d_Cun_inspect_266 ⟨Nat.zero_le _, Nat.zero_le _⟩) hw (fun z hD => CW_D (qD_same hD rfl)) (fun z9 H locs hp9 hw => ?_)
    refine W.eq (g2 := F0 m9 269 ls [.int (-1 : Int32)]) rfl ?_
    have hw : Lv _ _ _ _ _ (CW ad ti u pi ex de xi xb di db fi fb ob reg kq ca va fv (nR R (nRd xb) (((R (nR1 xb)).2.1) - ((cbase (R (nR1 xb)).2.2 (R (nR1 xb)).2.1).toInt32)))) _ _ _ := hw
    exact hw.riz S hr hlk (rfl) d_Cun_inspect_269 kq (by unfold xIn; rw [hc4_6, if_pos (show isV 6 = true by decide)]) (trivial) (by unfold xIn; rw [hc4_6, if_pos (show isV 6 = true by decide)]; simp [insV])
  by_cases hc4_8 : (nI (nR2 xb)) = (8 : Int32)
  · refine lv_tableIn hx hb d_Cun_inspect_4 (by rw [hc4_8]; decide) (by rw [hc4_8]; decide) (by rw [hc4_8]; rfl) rfl ?_
    refine lv_aload_n hx hb d_Cun_inspect_270 rfl (lv_at hl 0 rfl) ?_
    refine lv_aload_n hx hb d_Cun_inspect_271 rfl (lv_at hl 1 rfl) ?_
    refine lv_aload_n hx hb d_Cun_inspect_272 rfl (lv_at hl 2 rfl) ?_
    refine q_get S hw ly_Cap (21 + (nR1 xb)) (CW_at (by first | decide | omega)) rfl 1 (by decide) tb_1_51 rfl rfl d_Cun_inspect_273 ?_
    refine lv_iconst (v := 0) hx hb d_Cun_inspect_276 (by decide) ?_
    refine q_cg (q_runV (As := [.ref ex, .int ((R (nR1 xb)).2.1), .int (jb false)]) (rest := []) S (c_Cun_representable l D ti ad u pi ex de xi xb di db fi fb ob reg kq ca va fv R ((R (nR1 xb)).2.1) false) (cw_v hts tb_4_82 k_Cun_representable rfl rfl ⟨by decide, by decide⟩) hw 19 rfl rfl rfl hl.1 rfl (Nat.le_of_ble_eq_true rfl) d_Cun_inspect_277 ⟨Nat.zero_le _, Nat.zero_le _⟩) hw (fun z hD => CW_D (qD_same hD rfl)) (fun z9 H locs hp9 hw => ?_)
    refine W.eq (g2 := F0 m9 280 ls [.int (-1 : Int32)]) rfl ?_
    have hw : Lv _ _ _ _ _ (CW ad ti u pi ex de xi xb di db fi fb ob reg (kQ 0 (cLow ((R (nR1 xb)).2.1))) ca va fv (nR R (nRd xb) (rpV ((R (nR1 xb)).2.1) false))) _ _ _ := hw
    exact hw.riz S hr hlk (rfl) d_Cun_inspect_280 (kQ 0 (cLow ((R (nR1 xb)).2.1))) (by unfold xIn; rw [hc4_8, if_pos (show isV 8 = true by decide)]) (trivial) (by unfold xIn; rw [hc4_8, if_pos (show isV 8 = true by decide)]; simp [insV])
  by_cases hc4_9 : (nI (nR2 xb)) = (9 : Int32)
  · refine lv_tableIn hx hb d_Cun_inspect_4 (by rw [hc4_9]; decide) (by rw [hc4_9]; decide) (by rw [hc4_9]; rfl) rfl ?_
    refine lv_aload_n hx hb d_Cun_inspect_281 rfl (lv_at hl 0 rfl) ?_
    refine lv_aload_n hx hb d_Cun_inspect_282 rfl (lv_at hl 1 rfl) ?_
    refine lv_aload_n hx hb d_Cun_inspect_283 rfl (lv_at hl 2 rfl) ?_
    refine q_get S hw ly_Cap (21 + (nR1 xb)) (CW_at (by first | decide | omega)) rfl 1 (by decide) tb_1_51 rfl rfl d_Cun_inspect_284 ?_
    refine lv_iconst (v := 1) hx hb d_Cun_inspect_287 (by decide) ?_
    refine q_cg (q_runV (As := [.ref ex, .int ((R (nR1 xb)).2.1), .int (jb true)]) (rest := []) S (c_Cun_representable l D ti ad u pi ex de xi xb di db fi fb ob reg kq ca va fv R ((R (nR1 xb)).2.1) true) (cw_v hts tb_4_82 k_Cun_representable rfl rfl ⟨by decide, by decide⟩) hw 19 rfl rfl rfl hl.1 rfl (Nat.le_of_ble_eq_true rfl) d_Cun_inspect_288 ⟨Nat.zero_le _, Nat.zero_le _⟩) hw (fun z hD => CW_D (qD_same hD rfl)) (fun z9 H locs hp9 hw => ?_)
    refine W.eq (g2 := F0 m9 291 ls [.int (-1 : Int32)]) rfl ?_
    have hw : Lv _ _ _ _ _ (CW ad ti u pi ex de xi xb di db fi fb ob reg (kQ 0 (cLow ((R (nR1 xb)).2.1))) ca va fv (nR R (nRd xb) (rpV ((R (nR1 xb)).2.1) true))) _ _ _ := hw
    exact hw.riz S hr hlk (rfl) d_Cun_inspect_291 (kQ 0 (cLow ((R (nR1 xb)).2.1))) (by unfold xIn; rw [hc4_9, if_pos (show isV 9 = true by decide)]) (trivial) (by unfold xIn; rw [hc4_9, if_pos (show isV 9 = true by decide)]; simp [insV])
  by_cases hc4_10 : (nI (nR2 xb)) = (10 : Int32)
  · refine lv_tableIn hx hb d_Cun_inspect_4 (by rw [hc4_10]; decide) (by rw [hc4_10]; decide) (by rw [hc4_10]; rfl) rfl ?_
    refine lv_aload_n hx hb d_Cun_inspect_292 rfl (lv_at hl 0 rfl) ?_
    refine lv_aload_n hx hb d_Cun_inspect_293 rfl (lv_at hl 1 rfl) ?_
    refine lv_aload_n hx hb d_Cun_inspect_294 rfl (lv_at hl 2 rfl) ?_
    refine lv_aload_n hx hb d_Cun_inspect_295 rfl (lv_at hl 2 rfl) ?_
    refine q_get S hw ly_Cap (21 + (nR1 xb)) (CW_at (by first | decide | omega)) rfl 0 (by decide) tb_1_46 rfl rfl d_Cun_inspect_296 ?_
    refine q_cg (q_runV (As := [.ref ex, .ref (reg (nR1 xb)), .int (jb ((R (nR1 xb)).1))]) (rest := []) S (c_Cun_copy l D ti ad u pi ex de xi xb di db fi fb ob reg kq ca va fv R (nR1 xb) (by first | decide | omega) ((R (nR1 xb)).1)) (cw_v hts tb_4_86 k_Cun_copy rfl rfl ⟨by decide, by decide⟩) hw 19 rfl rfl rfl hl.1 rfl (Nat.le_of_ble_eq_true rfl) d_Cun_inspect_299 ⟨Nat.zero_le _, Nat.zero_le _⟩) hw (fun z hD => CW_D (qD_same hD rfl)) (fun z9 H locs hp9 hw => ?_)
    refine W.eq (g2 := F0 m9 302 ls [.int (-1 : Int32)]) rfl ?_
    have hw : Lv _ _ _ _ _ (CW ad ti u pi ex de xi xb di db fi fb ob reg kq ca va fv (uR R (((R (nR1 xb)).1, (R (nR1 xb)).2.1, (R (nR1 xb)).2.2) : Cap) xb)) _ _ _ := hw
    exact hw.riz S hr hlk (rfl) d_Cun_inspect_302 kq (by unfold xIn; rw [hc4_10, if_neg (show ¬ isV 10 = true by decide), if_pos rfl]) (trivial) (by unfold xIn; rw [hc4_10, if_neg (show ¬ isV 10 = true by decide), if_pos rfl])
  by_cases hc4_11 : (nI (nR2 xb)) = (11 : Int32)
  · refine lv_tableIn hx hb d_Cun_inspect_4 (by rw [hc4_11]; decide) (by rw [hc4_11]; decide) (by rw [hc4_11]; rfl) rfl ?_
    refine lv_aload_n hx hb d_Cun_inspect_303 rfl (lv_at hl 0 rfl) ?_
    refine lv_aload_n hx hb d_Cun_inspect_304 rfl (lv_at hl 1 rfl) ?_
    refine lv_aload_n hx hb d_Cun_inspect_305 rfl (lv_at hl 2 rfl) ?_
    refine lv_iconst (v := 0) hx hb d_Cun_inspect_306 (by decide) ?_
    refine q_cg (q_runV (As := [.ref ex, .ref (reg (nR1 xb)), .int (jb false)]) (rest := []) S (c_Cun_copy l D ti ad u pi ex de xi xb di db fi fb ob reg kq ca va fv R (nR1 xb) (by first | decide | omega) false) (cw_v hts tb_4_86 k_Cun_copy rfl rfl ⟨by decide, by decide⟩) hw 19 rfl rfl rfl hl.1 rfl (Nat.le_of_ble_eq_true rfl) d_Cun_inspect_307 ⟨Nat.zero_le _, Nat.zero_le _⟩) hw (fun z hD => CW_D (qD_same hD rfl)) (fun z9 H locs hp9 hw => ?_)
    refine W.eq (g2 := F0 m9 310 ls [.int (-1 : Int32)]) rfl ?_
    have hw : Lv _ _ _ _ _ (CW ad ti u pi ex de xi xb di db fi fb ob reg kq ca va fv (uR R ((false, (R (nR1 xb)).2.1, (R (nR1 xb)).2.2) : Cap) xb)) _ _ _ := hw
    exact hw.riz S hr hlk (rfl) d_Cun_inspect_310 kq (by unfold xIn; rw [hc4_11, if_neg (show ¬ isV 11 = true by decide), if_neg (by decide), if_pos rfl]) (trivial) (by unfold xIn; rw [hc4_11, if_neg (show ¬ isV 11 = true by decide), if_neg (by decide), if_pos rfl])
  by_cases hc4_15 : (nI (nR2 xb)) = (15 : Int32)
  · refine lv_tableIn hx hb d_Cun_inspect_4 (by rw [hc4_15]; decide) (by rw [hc4_15]; decide) (by rw [hc4_15]; rfl) rfl ?_
    refine lv_aload_n hx hb d_Cun_inspect_311 rfl (lv_at hl 0 rfl) ?_
    refine q_get S hw ly_Cun 19 rfl rfl 0 (by decide) tb_2_56 rfl rfl d_Cun_inspect_312 ?_
    refine lv_aload_n hx hb d_Cun_inspect_315 rfl (lv_at hl 1 rfl) ?_
    refine q_get S hw ly_Ins 14 rfl rfl 3 (by decide) tb_1_155 rfl rfl d_Cun_inspect_316 ?_
    refine lv_aload_n hx hb d_Cun_inspect_319 rfl (lv_at hl 2 rfl) ?_
    refine q_get S hw ly_Cap (21 + (nR1 xb)) (CW_at (by first | decide | omega)) rfl 1 (by decide) tb_1_51 rfl rfl d_Cun_inspect_320 ?_
    refine q_cg (q_runV (As := [.int (nI (nRd xb)), .int ((R (nR1 xb)).2.1)]) (rest := []) S (c_Sta_answerNumber l D ti ad u pi ex de xi xb di db fi fb ob reg kq ca va fv R (nRd xb) (by first | decide | omega) ((R (nR1 xb)).2.1)) (cw_v hts tb_4_44 k_Sta_answerNumber rfl rfl ⟨by decide, by decide⟩) hw 16 rfl rfl rfl hl.1 rfl (Nat.le_of_ble_eq_true rfl) d_Cun_inspect_323 ⟨Nat.zero_le _, Nat.zero_le _⟩) hw (fun z hD => CW_D (qD_same hD rfl)) (fun z9 H locs hp9 hw => ?_)
    refine W.eq (g2 := F0 m9 326 ls [.int (-1 : Int32)]) rfl ?_
    have hw : Lv _ _ _ _ _ (CW ad ti u pi ex de xi xb di db fi fb ob reg kq ca va fv (nR R (nRd xb) ((R (nR1 xb)).2.1))) _ _ _ := hw
    exact hw.riz S hr hlk (rfl) d_Cun_inspect_326 kq (by unfold xIn; rw [hc4_15, if_pos (show isV 15 = true by decide)]) (trivial) (by unfold xIn; rw [hc4_15, if_pos (show isV 15 = true by decide)]; simp [insV])
  by_cases hc4_17 : (nI (nR2 xb)) = (17 : Int32)
  · refine lv_tableIn hx hb d_Cun_inspect_4 (by rw [hc4_17]; decide) (by rw [hc4_17]; decide) (by rw [hc4_17]; rfl) rfl ?_
    refine lv_aload_n hx hb d_Cun_inspect_327 rfl (lv_at hl 0 rfl) ?_
    refine lv_aload_n hx hb d_Cun_inspect_328 rfl (lv_at hl 1 rfl) ?_
    refine lv_aload_n hx hb d_Cun_inspect_329 rfl (lv_at hl 2 rfl) ?_
    refine q_cg (q_runV (As := [.ref ex, .ref (reg (nR1 xb))]) (rest := []) S (c_Cun_sealEntry l D ti ad u pi ex de xi xb di db fi fb ob reg kq ca va fv R (nR1 xb) (by first | decide | omega)) (cw_v hts tb_4_90 k_Cun_sealEntry rfl rfl ⟨by decide, by decide⟩) hw 19 rfl rfl rfl hl.1 rfl (Nat.le_of_ble_eq_true rfl) d_Cun_inspect_330 ⟨Nat.zero_le _, Nat.zero_le _⟩) hw (fun z hD => CW_D (qD_same hD rfl)) (fun z9 H locs hp9 hw => ?_)
    refine W.eq (g2 := F0 m9 333 ls [.int (-1 : Int32)]) rfl ?_
    have hw : Lv _ _ _ _ _ (CW ad ti u pi ex de xi xb di db fi fb ob reg kq ca va fv (uR R (uEn (R (nR1 xb))) xb)) _ _ _ := hw
    exact hw.riz S hr hlk (rfl) d_Cun_inspect_333 kq (by unfold xIn; rw [hc4_17, if_neg (show ¬ isV 17 = true by decide), if_neg (by decide), if_neg (by decide), if_pos rfl]) (trivial) (by unfold xIn; rw [hc4_17, if_neg (show ¬ isV 17 = true by decide), if_neg (by decide), if_neg (by decide), if_pos rfl])
  by_cases hc4_23 : (nI (nR2 xb)) = (23 : Int32)
  · refine lv_tableIn hx hb d_Cun_inspect_4 (by rw [hc4_23]; decide) (by rw [hc4_23]; decide) (by rw [hc4_23]; rfl) rfl ?_
    refine lv_aload_n hx hb d_Cun_inspect_334 rfl (lv_at hl 0 rfl) ?_
    refine q_get S hw ly_Cun 19 rfl rfl 0 (by decide) tb_2_56 rfl rfl d_Cun_inspect_335 ?_
    refine lv_aload_n hx hb d_Cun_inspect_338 rfl (lv_at hl 1 rfl) ?_
    refine q_get S hw ly_Ins 14 rfl rfl 3 (by decide) tb_1_155 rfl rfl d_Cun_inspect_339 ?_
    refine lv_aload_n hx hb d_Cun_inspect_342 rfl (lv_at hl 2 rfl) ?_
    refine q_cr (q_runV (As := []) (rest := [.int (nI (nRd xb)), .ref (ob 0)]) S (w_toldMeta l D ti ad u pi ex de xi xb di db fi fb ob reg kq ca va fv R (nR1 xb) (by first | decide | omega)) (cw_v hts tb_4_94 k_Cap_toldMeta rfl rfl ⟨by decide, by decide⟩) hw (21 + (nR1 xb)) (CW_at (by first | decide | omega)) rfl rfl hl.1 rfl (Nat.le_of_ble_eq_true rfl) d_Cun_inspect_343 ⟨Nat.zero_le _, Nat.zero_le _⟩) ?_
    refine W.eq (g2 := F0 m9 346 ls [.int (cTold (R (nR1 xb)).2.2), .int (nI (nRd xb)), .ref (ob 0)]) rfl ?_
    refine q_cg (q_runV (As := [.int (nI (nRd xb)), .int (cTold (R (nR1 xb)).2.2)]) (rest := []) S (c_Sta_answerNumber l D ti ad u pi ex de xi xb di db fi fb ob reg kq ca va fv R (nRd xb) (by first | decide | omega) (cTold (R (nR1 xb)).2.2)) (cw_v hts tb_4_44 k_Sta_answerNumber rfl rfl ⟨by decide, by decide⟩) hw 16 rfl rfl rfl hl.1 rfl (Nat.le_of_ble_eq_true rfl) d_Cun_inspect_346 ⟨Nat.zero_le _, Nat.zero_le _⟩) hw (fun z hD => CW_D (qD_same hD rfl)) (fun z9 H locs hp9 hw => ?_)
    refine W.eq (g2 := F0 m9 349 ls [.int (-1 : Int32)]) rfl ?_
    have hw : Lv _ _ _ _ _ (CW ad ti u pi ex de xi xb di db fi fb ob reg kq ca va fv (nR R (nRd xb) (cTold (R (nR1 xb)).2.2))) _ _ _ := hw
    exact hw.riz S hr hlk (rfl) d_Cun_inspect_349 kq (by unfold xIn; rw [hc4_23, if_pos (show isV 23 = true by decide)]) (trivial) (by unfold xIn; rw [hc4_23, if_pos (show isV 23 = true by decide)]; simp [insV])
  by_cases hc4_7 : (nI (nR2 xb)) = (7 : Int32)
  · refine lv_tableIn hx hb d_Cun_inspect_4 (by rw [hc4_7]; decide) (by rw [hc4_7]; decide) (by rw [hc4_7]; rfl) rfl ?_
    refine lv_aload_n hx hb d_Cun_inspect_350 rfl (lv_at hl 0 rfl) ?_
    refine q_get S hw ly_Cun 19 rfl rfl 0 (by decide) tb_2_56 rfl rfl d_Cun_inspect_351 ?_
    refine lv_aload_n hx hb d_Cun_inspect_354 rfl (lv_at hl 1 rfl) ?_
    refine q_cg (q_runV (As := [.ref ex]) (rest := []) S (c_Sta_illegal l D ti ad u pi ex de xi xb di db fi fb ob reg kq ca va fv R) (cw_v hts tb_3_220 k_Sta_illegal rfl rfl ⟨by decide, by decide⟩) hw 16 rfl rfl rfl hl.1 rfl (Nat.le_of_ble_eq_true rfl) d_Cun_inspect_355 ⟨Nat.zero_le _, Nat.zero_le _⟩) hw (fun z hD => qD_same hD rfl) (fun z9 H locs hp9 hw => ?_)
    refine W.eq (g2 := F0 m9 358 ls [.int (2 : Int32)]) rfl ?_
    have hw : Lv _ _ _ _ _ (CW ad ti u pi ex de xi xb di db fi fb ob reg kq ca va xb R) _ _ _ := hw
    exact hw.riz S hr hlk (rfl) d_Cun_inspect_358 kq (by unfold xIn; rw [hc4_7, if_neg (show ¬ isV 7 = true by decide), if_neg (by decide), if_neg (by decide), if_neg (by decide)]) (trivial) (by unfold xIn; rw [hc4_7, if_neg (show ¬ isV 7 = true by decide), if_neg (by decide), if_neg (by decide), if_neg (by decide)])
  by_cases hc4_12 : (nI (nR2 xb)) = (12 : Int32)
  · refine lv_tableIn hx hb d_Cun_inspect_4 (by rw [hc4_12]; decide) (by rw [hc4_12]; decide) (by rw [hc4_12]; rfl) rfl ?_
    refine lv_aload_n hx hb d_Cun_inspect_350 rfl (lv_at hl 0 rfl) ?_
    refine q_get S hw ly_Cun 19 rfl rfl 0 (by decide) tb_2_56 rfl rfl d_Cun_inspect_351 ?_
    refine lv_aload_n hx hb d_Cun_inspect_354 rfl (lv_at hl 1 rfl) ?_
    refine q_cg (q_runV (As := [.ref ex]) (rest := []) S (c_Sta_illegal l D ti ad u pi ex de xi xb di db fi fb ob reg kq ca va fv R) (cw_v hts tb_3_220 k_Sta_illegal rfl rfl ⟨by decide, by decide⟩) hw 16 rfl rfl rfl hl.1 rfl (Nat.le_of_ble_eq_true rfl) d_Cun_inspect_355 ⟨Nat.zero_le _, Nat.zero_le _⟩) hw (fun z hD => qD_same hD rfl) (fun z9 H locs hp9 hw => ?_)
    refine W.eq (g2 := F0 m9 358 ls [.int (2 : Int32)]) rfl ?_
    have hw : Lv _ _ _ _ _ (CW ad ti u pi ex de xi xb di db fi fb ob reg kq ca va xb R) _ _ _ := hw
    exact hw.riz S hr hlk (rfl) d_Cun_inspect_358 kq (by unfold xIn; rw [hc4_12, if_neg (show ¬ isV 12 = true by decide), if_neg (by decide), if_neg (by decide), if_neg (by decide)]) (trivial) (by unfold xIn; rw [hc4_12, if_neg (show ¬ isV 12 = true by decide), if_neg (by decide), if_neg (by decide), if_neg (by decide)])
  by_cases hc4_13 : (nI (nR2 xb)) = (13 : Int32)
  · refine lv_tableIn hx hb d_Cun_inspect_4 (by rw [hc4_13]; decide) (by rw [hc4_13]; decide) (by rw [hc4_13]; rfl) rfl ?_
    refine lv_aload_n hx hb d_Cun_inspect_350 rfl (lv_at hl 0 rfl) ?_
    refine q_get S hw ly_Cun 19 rfl rfl 0 (by decide) tb_2_56 rfl rfl d_Cun_inspect_351 ?_
    refine lv_aload_n hx hb d_Cun_inspect_354 rfl (lv_at hl 1 rfl) ?_
    refine q_cg (q_runV (As := [.ref ex]) (rest := []) S (c_Sta_illegal l D ti ad u pi ex de xi xb di db fi fb ob reg kq ca va fv R) (cw_v hts tb_3_220 k_Sta_illegal rfl rfl ⟨by decide, by decide⟩) hw 16 rfl rfl rfl hl.1 rfl (Nat.le_of_ble_eq_true rfl) d_Cun_inspect_355 ⟨Nat.zero_le _, Nat.zero_le _⟩) hw (fun z hD => qD_same hD rfl) (fun z9 H locs hp9 hw => ?_)
    refine W.eq (g2 := F0 m9 358 ls [.int (2 : Int32)]) rfl ?_
    have hw : Lv _ _ _ _ _ (CW ad ti u pi ex de xi xb di db fi fb ob reg kq ca va xb R) _ _ _ := hw
    exact hw.riz S hr hlk (rfl) d_Cun_inspect_358 kq (by unfold xIn; rw [hc4_13, if_neg (show ¬ isV 13 = true by decide), if_neg (by decide), if_neg (by decide), if_neg (by decide)]) (trivial) (by unfold xIn; rw [hc4_13, if_neg (show ¬ isV 13 = true by decide), if_neg (by decide), if_neg (by decide), if_neg (by decide)])
  by_cases hc4_14 : (nI (nR2 xb)) = (14 : Int32)
  · refine lv_tableIn hx hb d_Cun_inspect_4 (by rw [hc4_14]; decide) (by rw [hc4_14]; decide) (by rw [hc4_14]; rfl) rfl ?_
    refine lv_aload_n hx hb d_Cun_inspect_350 rfl (lv_at hl 0 rfl) ?_
    refine q_get S hw ly_Cun 19 rfl rfl 0 (by decide) tb_2_56 rfl rfl d_Cun_inspect_351 ?_
    refine lv_aload_n hx hb d_Cun_inspect_354 rfl (lv_at hl 1 rfl) ?_
    refine q_cg (q_runV (As := [.ref ex]) (rest := []) S (c_Sta_illegal l D ti ad u pi ex de xi xb di db fi fb ob reg kq ca va fv R) (cw_v hts tb_3_220 k_Sta_illegal rfl rfl ⟨by decide, by decide⟩) hw 16 rfl rfl rfl hl.1 rfl (Nat.le_of_ble_eq_true rfl) d_Cun_inspect_355 ⟨Nat.zero_le _, Nat.zero_le _⟩) hw (fun z hD => qD_same hD rfl) (fun z9 H locs hp9 hw => ?_)
    refine W.eq (g2 := F0 m9 358 ls [.int (2 : Int32)]) rfl ?_
    have hw : Lv _ _ _ _ _ (CW ad ti u pi ex de xi xb di db fi fb ob reg kq ca va xb R) _ _ _ := hw
    exact hw.riz S hr hlk (rfl) d_Cun_inspect_358 kq (by unfold xIn; rw [hc4_14, if_neg (show ¬ isV 14 = true by decide), if_neg (by decide), if_neg (by decide), if_neg (by decide)]) (trivial) (by unfold xIn; rw [hc4_14, if_neg (show ¬ isV 14 = true by decide), if_neg (by decide), if_neg (by decide), if_neg (by decide)])
  by_cases hc4_16 : (nI (nR2 xb)) = (16 : Int32)
  · refine lv_tableIn hx hb d_Cun_inspect_4 (by rw [hc4_16]; decide) (by rw [hc4_16]; decide) (by rw [hc4_16]; rfl) rfl ?_
    refine lv_aload_n hx hb d_Cun_inspect_350 rfl (lv_at hl 0 rfl) ?_
    refine q_get S hw ly_Cun 19 rfl rfl 0 (by decide) tb_2_56 rfl rfl d_Cun_inspect_351 ?_
    refine lv_aload_n hx hb d_Cun_inspect_354 rfl (lv_at hl 1 rfl) ?_
    refine q_cg (q_runV (As := [.ref ex]) (rest := []) S (c_Sta_illegal l D ti ad u pi ex de xi xb di db fi fb ob reg kq ca va fv R) (cw_v hts tb_3_220 k_Sta_illegal rfl rfl ⟨by decide, by decide⟩) hw 16 rfl rfl rfl hl.1 rfl (Nat.le_of_ble_eq_true rfl) d_Cun_inspect_355 ⟨Nat.zero_le _, Nat.zero_le _⟩) hw (fun z hD => qD_same hD rfl) (fun z9 H locs hp9 hw => ?_)
    refine W.eq (g2 := F0 m9 358 ls [.int (2 : Int32)]) rfl ?_
    have hw : Lv _ _ _ _ _ (CW ad ti u pi ex de xi xb di db fi fb ob reg kq ca va xb R) _ _ _ := hw
    exact hw.riz S hr hlk (rfl) d_Cun_inspect_358 kq (by unfold xIn; rw [hc4_16, if_neg (show ¬ isV 16 = true by decide), if_neg (by decide), if_neg (by decide), if_neg (by decide)]) (trivial) (by unfold xIn; rw [hc4_16, if_neg (show ¬ isV 16 = true by decide), if_neg (by decide), if_neg (by decide), if_neg (by decide)])
  by_cases hc4_18 : (nI (nR2 xb)) = (18 : Int32)
  · refine lv_tableIn hx hb d_Cun_inspect_4 (by rw [hc4_18]; decide) (by rw [hc4_18]; decide) (by rw [hc4_18]; rfl) rfl ?_
    refine lv_aload_n hx hb d_Cun_inspect_350 rfl (lv_at hl 0 rfl) ?_
    refine q_get S hw ly_Cun 19 rfl rfl 0 (by decide) tb_2_56 rfl rfl d_Cun_inspect_351 ?_
    refine lv_aload_n hx hb d_Cun_inspect_354 rfl (lv_at hl 1 rfl) ?_
    refine q_cg (q_runV (As := [.ref ex]) (rest := []) S (c_Sta_illegal l D ti ad u pi ex de xi xb di db fi fb ob reg kq ca va fv R) (cw_v hts tb_3_220 k_Sta_illegal rfl rfl ⟨by decide, by decide⟩) hw 16 rfl rfl rfl hl.1 rfl (Nat.le_of_ble_eq_true rfl) d_Cun_inspect_355 ⟨Nat.zero_le _, Nat.zero_le _⟩) hw (fun z hD => qD_same hD rfl) (fun z9 H locs hp9 hw => ?_)
    refine W.eq (g2 := F0 m9 358 ls [.int (2 : Int32)]) rfl ?_
    have hw : Lv _ _ _ _ _ (CW ad ti u pi ex de xi xb di db fi fb ob reg kq ca va xb R) _ _ _ := hw
    exact hw.riz S hr hlk (rfl) d_Cun_inspect_358 kq (by unfold xIn; rw [hc4_18, if_neg (show ¬ isV 18 = true by decide), if_neg (by decide), if_neg (by decide), if_neg (by decide)]) (trivial) (by unfold xIn; rw [hc4_18, if_neg (show ¬ isV 18 = true by decide), if_neg (by decide), if_neg (by decide), if_neg (by decide)])
  by_cases hc4_19 : (nI (nR2 xb)) = (19 : Int32)
  · refine lv_tableIn hx hb d_Cun_inspect_4 (by rw [hc4_19]; decide) (by rw [hc4_19]; decide) (by rw [hc4_19]; rfl) rfl ?_
    refine lv_aload_n hx hb d_Cun_inspect_350 rfl (lv_at hl 0 rfl) ?_
    refine q_get S hw ly_Cun 19 rfl rfl 0 (by decide) tb_2_56 rfl rfl d_Cun_inspect_351 ?_
    refine lv_aload_n hx hb d_Cun_inspect_354 rfl (lv_at hl 1 rfl) ?_
    refine q_cg (q_runV (As := [.ref ex]) (rest := []) S (c_Sta_illegal l D ti ad u pi ex de xi xb di db fi fb ob reg kq ca va fv R) (cw_v hts tb_3_220 k_Sta_illegal rfl rfl ⟨by decide, by decide⟩) hw 16 rfl rfl rfl hl.1 rfl (Nat.le_of_ble_eq_true rfl) d_Cun_inspect_355 ⟨Nat.zero_le _, Nat.zero_le _⟩) hw (fun z hD => qD_same hD rfl) (fun z9 H locs hp9 hw => ?_)
    refine W.eq (g2 := F0 m9 358 ls [.int (2 : Int32)]) rfl ?_
    have hw : Lv _ _ _ _ _ (CW ad ti u pi ex de xi xb di db fi fb ob reg kq ca va xb R) _ _ _ := hw
    exact hw.riz S hr hlk (rfl) d_Cun_inspect_358 kq (by unfold xIn; rw [hc4_19, if_neg (show ¬ isV 19 = true by decide), if_neg (by decide), if_neg (by decide), if_neg (by decide)]) (trivial) (by unfold xIn; rw [hc4_19, if_neg (show ¬ isV 19 = true by decide), if_neg (by decide), if_neg (by decide), if_neg (by decide)])
  by_cases hc4_20 : (nI (nR2 xb)) = (20 : Int32)
  · refine lv_tableIn hx hb d_Cun_inspect_4 (by rw [hc4_20]; decide) (by rw [hc4_20]; decide) (by rw [hc4_20]; rfl) rfl ?_
    refine lv_aload_n hx hb d_Cun_inspect_350 rfl (lv_at hl 0 rfl) ?_
    refine q_get S hw ly_Cun 19 rfl rfl 0 (by decide) tb_2_56 rfl rfl d_Cun_inspect_351 ?_
    refine lv_aload_n hx hb d_Cun_inspect_354 rfl (lv_at hl 1 rfl) ?_
    refine q_cg (q_runV (As := [.ref ex]) (rest := []) S (c_Sta_illegal l D ti ad u pi ex de xi xb di db fi fb ob reg kq ca va fv R) (cw_v hts tb_3_220 k_Sta_illegal rfl rfl ⟨by decide, by decide⟩) hw 16 rfl rfl rfl hl.1 rfl (Nat.le_of_ble_eq_true rfl) d_Cun_inspect_355 ⟨Nat.zero_le _, Nat.zero_le _⟩) hw (fun z hD => qD_same hD rfl) (fun z9 H locs hp9 hw => ?_)
    refine W.eq (g2 := F0 m9 358 ls [.int (2 : Int32)]) rfl ?_
    have hw : Lv _ _ _ _ _ (CW ad ti u pi ex de xi xb di db fi fb ob reg kq ca va xb R) _ _ _ := hw
    exact hw.riz S hr hlk (rfl) d_Cun_inspect_358 kq (by unfold xIn; rw [hc4_20, if_neg (show ¬ isV 20 = true by decide), if_neg (by decide), if_neg (by decide), if_neg (by decide)]) (trivial) (by unfold xIn; rw [hc4_20, if_neg (show ¬ isV 20 = true by decide), if_neg (by decide), if_neg (by decide), if_neg (by decide)])
  by_cases hc4_21 : (nI (nR2 xb)) = (21 : Int32)
  · refine lv_tableIn hx hb d_Cun_inspect_4 (by rw [hc4_21]; decide) (by rw [hc4_21]; decide) (by rw [hc4_21]; rfl) rfl ?_
    refine lv_aload_n hx hb d_Cun_inspect_350 rfl (lv_at hl 0 rfl) ?_
    refine q_get S hw ly_Cun 19 rfl rfl 0 (by decide) tb_2_56 rfl rfl d_Cun_inspect_351 ?_
    refine lv_aload_n hx hb d_Cun_inspect_354 rfl (lv_at hl 1 rfl) ?_
    refine q_cg (q_runV (As := [.ref ex]) (rest := []) S (c_Sta_illegal l D ti ad u pi ex de xi xb di db fi fb ob reg kq ca va fv R) (cw_v hts tb_3_220 k_Sta_illegal rfl rfl ⟨by decide, by decide⟩) hw 16 rfl rfl rfl hl.1 rfl (Nat.le_of_ble_eq_true rfl) d_Cun_inspect_355 ⟨Nat.zero_le _, Nat.zero_le _⟩) hw (fun z hD => qD_same hD rfl) (fun z9 H locs hp9 hw => ?_)
    refine W.eq (g2 := F0 m9 358 ls [.int (2 : Int32)]) rfl ?_
    have hw : Lv _ _ _ _ _ (CW ad ti u pi ex de xi xb di db fi fb ob reg kq ca va xb R) _ _ _ := hw
    exact hw.riz S hr hlk (rfl) d_Cun_inspect_358 kq (by unfold xIn; rw [hc4_21, if_neg (show ¬ isV 21 = true by decide), if_neg (by decide), if_neg (by decide), if_neg (by decide)]) (trivial) (by unfold xIn; rw [hc4_21, if_neg (show ¬ isV 21 = true by decide), if_neg (by decide), if_neg (by decide), if_neg (by decide)])
  by_cases hc4_22 : (nI (nR2 xb)) = (22 : Int32)
  · refine lv_tableIn hx hb d_Cun_inspect_4 (by rw [hc4_22]; decide) (by rw [hc4_22]; decide) (by rw [hc4_22]; rfl) rfl ?_
    refine lv_aload_n hx hb d_Cun_inspect_350 rfl (lv_at hl 0 rfl) ?_
    refine q_get S hw ly_Cun 19 rfl rfl 0 (by decide) tb_2_56 rfl rfl d_Cun_inspect_351 ?_
    refine lv_aload_n hx hb d_Cun_inspect_354 rfl (lv_at hl 1 rfl) ?_
    refine q_cg (q_runV (As := [.ref ex]) (rest := []) S (c_Sta_illegal l D ti ad u pi ex de xi xb di db fi fb ob reg kq ca va fv R) (cw_v hts tb_3_220 k_Sta_illegal rfl rfl ⟨by decide, by decide⟩) hw 16 rfl rfl rfl hl.1 rfl (Nat.le_of_ble_eq_true rfl) d_Cun_inspect_355 ⟨Nat.zero_le _, Nat.zero_le _⟩) hw (fun z hD => qD_same hD rfl) (fun z9 H locs hp9 hw => ?_)
    refine W.eq (g2 := F0 m9 358 ls [.int (2 : Int32)]) rfl ?_
    have hw : Lv _ _ _ _ _ (CW ad ti u pi ex de xi xb di db fi fb ob reg kq ca va xb R) _ _ _ := hw
    exact hw.riz S hr hlk (rfl) d_Cun_inspect_358 kq (by simp [xIn, isV, hc4_0, hc4_1, hc4_2, hc4_3, hc4_4, hc4_5, hc4_6, hc4_8, hc4_9, hc4_10, hc4_11, hc4_15, hc4_17, hc4_23, hc4_7, hc4_12, hc4_13, hc4_14, hc4_16, hc4_18, hc4_19, hc4_20, hc4_21, hc4_22]) (trivial) (by simp [xIn, isV, hc4_0, hc4_1, hc4_2, hc4_3, hc4_4, hc4_5, hc4_6, hc4_8, hc4_9, hc4_10, hc4_11, hc4_15, hc4_17, hc4_23, hc4_7, hc4_12, hc4_13, hc4_14, hc4_16, hc4_18, hc4_19, hc4_20, hc4_21, hc4_22])
  refine lv_tableOut hx hb d_Cun_inspect_4 (by have := lv_neT hc4_0 (a := 0) rfl; have := lv_neT hc4_1 (a := 1) rfl; have := lv_neT hc4_2 (a := 2) rfl; have := lv_neT hc4_3 (a := 3) rfl; have := lv_neT hc4_4 (a := 4) rfl; have := lv_neT hc4_5 (a := 5) rfl; have := lv_neT hc4_6 (a := 6) rfl; have := lv_neT hc4_8 (a := 8) rfl; have := lv_neT hc4_9 (a := 9) rfl; have := lv_neT hc4_10 (a := 10) rfl; have := lv_neT hc4_11 (a := 11) rfl; have := lv_neT hc4_15 (a := 15) rfl; have := lv_neT hc4_17 (a := 17) rfl; have := lv_neT hc4_23 (a := 23) rfl; have := lv_neT hc4_7 (a := 7) rfl; have := lv_neT hc4_12 (a := 12) rfl; have := lv_neT hc4_13 (a := 13) rfl; have := lv_neT hc4_14 (a := 14) rfl; have := lv_neT hc4_16 (a := 16) rfl; have := lv_neT hc4_18 (a := 18) rfl; have := lv_neT hc4_19 (a := 19) rfl; have := lv_neT hc4_20 (a := 20) rfl; have := lv_neT hc4_21 (a := 21) rfl; have := lv_neT hc4_22 (a := 22) rfl; omega) rfl ?_
  refine lv_aload_n hx hb d_Cun_inspect_350 rfl (lv_at hl 0 rfl) ?_
  refine q_get S hw ly_Cun 19 rfl rfl 0 (by decide) tb_2_56 rfl rfl d_Cun_inspect_351 ?_
  refine lv_aload_n hx hb d_Cun_inspect_354 rfl (lv_at hl 1 rfl) ?_
  refine q_cg (q_runV (As := [.ref ex]) (rest := []) S (c_Sta_illegal l D ti ad u pi ex de xi xb di db fi fb ob reg kq ca va fv R) (cw_v hts tb_3_220 k_Sta_illegal rfl rfl ⟨by decide, by decide⟩) hw 16 rfl rfl rfl hl.1 rfl (Nat.le_of_ble_eq_true rfl) d_Cun_inspect_355 ⟨Nat.zero_le _, Nat.zero_le _⟩) hw (fun z hD => qD_same hD rfl) (fun z9 H locs hp9 hw => ?_)
  refine W.eq (g2 := F0 m9 358 ls [.int (2 : Int32)]) rfl ?_
  have hw : Lv _ _ _ _ _ (CW ad ti u pi ex de xi xb di db fi fb ob reg kq ca va xb R) _ _ _ := hw
  exact hw.riz S hr hlk (rfl) d_Cun_inspect_358 kq (by simp [xIn, isV, hc4_0, hc4_1, hc4_2, hc4_3, hc4_4, hc4_5, hc4_6, hc4_8, hc4_9, hc4_10, hc4_11, hc4_15, hc4_17, hc4_23, hc4_7, hc4_12, hc4_13, hc4_14, hc4_16, hc4_18, hc4_19, hc4_20, hc4_21, hc4_22]) (trivial) (by simp [xIn, isV, hc4_0, hc4_1, hc4_2, hc4_3, hc4_4, hc4_5, hc4_6, hc4_8, hc4_9, hc4_10, hc4_11, hc4_15, hc4_17, hc4_23, hc4_7, hc4_12, hc4_13, hc4_14, hc4_16, hc4_18, hc4_19, hc4_20, hc4_21, hc4_22])
set_option maxHeartbeats 4000000 in
set_option maxRecDepth 100000 in
theorem c_Cun_byNumber (l : Launch) (D : va_G) (ti : Nat → ClassId) (ad : Nat → Nat) (u : MT) (pi ex de : Nat) (xi xb di db fi fb : Int32) (ob reg : Nat → Nat) (kq : Int32 × Bool × Bool × Int32 × Int64) (ca va fv : Int32) (R : Nat → Cap) : Cg l y_Cun_byNumber (wl y_Cun_byNumber b_Cun_byNumber 4 (some .int)) (rmL 5) D clz (ty4 ti) [.ref (ob 3), .ref ex, .ref (reg (nR1 xb)), .ref (reg (nR2 xb))] (CW ad ti u pi ex de xi xb di db fi fb ob reg kq ca va fv R) (fun z : Int32 × Bool × Bool × Int32 × Int64 => some (.int (xNb fv R (R (nR1 xb)) (R (nR2 xb)) xb).1)) (fun z => (CW ad ti u pi ex de xi xb di db fi fb ob reg z ca va ((xNb fv R (R (nR1 xb)) (R (nR2 xb)) xb).2.1) ((xNb fv R (R (nR1 xb)) (R (nR2 xb)) xb).2.2))) (fun _ => True) := by
  refine Cg.ofF (plainFor_of_name (by decide)) (Nat.le_of_ble_eq_true rfl) ?_
  intro p9 e9 s9 m9 b9 me9 c9 ls S hr hlk hl hw
  obtain ⟨hx, hb, hml, hown, hts⟩ := id S
  have hl : lv_has ls 4 [(0, .ref (ob 3)), (1, .ref ex), (2, .ref (reg (nR1 xb))), (3, .ref (reg (nR2 xb)))] := hl
  have hr1 := nR1_lt xb
  have hr2 := nR2_lt xb
  have hrd := nRd_lt xb
  refine lv_aload_n hx hb d_Cun_byNumber_0 rfl (lv_at hl 1 rfl) ?_
  refine q_get S hw ly_Ins 14 rfl rfl 7 (by decide) tb_1_166 rfl rfl d_Cun_byNumber_1 ?_
  refine q_topi (z := (nI (nNb xb))) rfl ?_
  by_cases hc4_1 : (nI (nNb xb)) = (1 : Int32)
  · refine lv_lookup (off := 132) (tgt := 136) hx hb d_Cun_byNumber_4 (by decide) (by rw [hc4_1] <;> rfl) rfl ?_
    refine lv_aload_n hx hb d_Cun_byNumber_136 rfl (lv_at hl 0 rfl) ?_
    refine lv_aload_n hx hb d_Cun_byNumber_137 rfl (lv_at hl 1 rfl) ?_
    refine lv_aload_n hx hb d_Cun_byNumber_138 rfl (lv_at hl 2 rfl) ?_
    refine q_cg (q_runV (As := [.ref ex, .ref (reg (nR1 xb))]) (rest := []) S (c_Cun_special l D ti ad u pi ex de xi xb di db fi fb ob reg kq ca va fv R) (cw_v hts tb_3_216 k_Cun_special rfl rfl ⟨by decide, by decide⟩) hw 19 rfl rfl rfl hl.1 rfl (Nat.le_of_ble_eq_true rfl) d_Cun_byNumber_139 ⟨Nat.zero_le _, Nat.zero_le _⟩) hw (fun z hD => CW_D (qD_same hD rfl)) (fun z9 H locs hp9 hw => ?_)
    refine W.eq (g2 := F0 m9 142 ls [.int ((xSp fv R xb).1)]) rfl ?_
    have hw : Lv _ _ _ _ _ (CW ad ti u pi ex de xi xb di db fi fb ob reg kq ca va ((xSp fv R xb).2.1) ((xSp fv R xb).2.2)) _ _ _ := hw
    exact hw.riz S hr hlk (rfl) d_Cun_byNumber_142 kq (by unfold xNb; rw [if_pos hc4_1]) (trivial) (by unfold xNb; rw [if_pos hc4_1])
  by_cases hc4_8 : (nI (nNb xb)) = (8 : Int32)
  · refine lv_lookup (off := 139) (tgt := 143) hx hb d_Cun_byNumber_4 (by decide) (by rw [hc4_8] <;> rfl) rfl ?_
    refine lv_aload_n hx hb d_Cun_byNumber_143 rfl (lv_at hl 0 rfl) ?_
    refine lv_aload_n hx hb d_Cun_byNumber_144 rfl (lv_at hl 1 rfl) ?_
    refine lv_aload_n hx hb d_Cun_byNumber_145 rfl (lv_at hl 2 rfl) ?_
    refine lv_aload_n hx hb d_Cun_byNumber_146 rfl (lv_at hl 3 rfl) ?_
    refine q_get S hw ly_Cap (21 + (nR2 xb)) (CW_at (by first | decide | omega)) rfl 1 (by decide) tb_1_51 rfl rfl d_Cun_byNumber_147 ?_
    refine lv_i2l (v := (((R (nR2 xb)).2.1).toInt64)) hx hb d_Cun_byNumber_150 rfl ?_
    refine lv_ldc2 (v := 4294967295) hx hb hown (hts _ tb_3_232) d_Cun_byNumber_151 ?_
    refine lv_land hx hb d_Cun_byNumber_154 ?_
    refine q_topl (z := (cLow (R (nR2 xb)).2.1)) (rfl) ?_
    refine lv_iconst (v := 0) hx hb d_Cun_byNumber_155 (by decide) ?_
    refine q_cg (q_runV (As := [.ref ex, .ref (reg (nR1 xb)), .long (cLow (R (nR2 xb)).2.1), .int (jb false)]) (rest := []) S (c_Cun_bounded l D ti ad u pi ex de xi xb di db fi fb ob reg kq ca va fv R (nR1 xb) (by first | decide | omega) (cLow (R (nR2 xb)).2.1) false) (cw_v hts tb_3_233 k_Cun_bounded rfl rfl ⟨by decide, by decide⟩) hw 19 rfl rfl rfl hl.1 rfl (Nat.le_of_ble_eq_true rfl) d_Cun_byNumber_156 ⟨Nat.zero_le _, Nat.zero_le _⟩) hw (fun z hD => CW_D (qD_same hD rfl)) (fun z9 H locs hp9 hw => ?_)
    refine W.eq (g2 := F0 m9 159 ls [.int (-1 : Int32)]) rfl ?_
    have hw : Lv _ _ _ _ _ (CW ad ti u pi ex de xi xb di db fi fb ob reg (kQ (bF (R (nR1 xb))) (bTo (R (nR1 xb)) (cLow (R (nR2 xb)).2.1))) ca va fv (uR R (uBn (R (nR1 xb)) (cLow (R (nR2 xb)).2.1) false) xb)) _ _ _ := hw
    exact hw.riz S hr hlk (rfl) d_Cun_byNumber_159 (kQ (bF (R (nR1 xb))) (bTo (R (nR1 xb)) (cLow (R (nR2 xb)).2.1))) (by unfold xNb; rw [if_neg hc4_1, if_pos hc4_8]) (trivial) (by unfold xNb; rw [if_neg hc4_1, if_pos hc4_8])
  by_cases hc4_9 : (nI (nNb xb)) = (9 : Int32)
  · refine lv_lookup (off := 156) (tgt := 160) hx hb d_Cun_byNumber_4 (by decide) (by rw [hc4_9] <;> rfl) rfl ?_
    refine lv_aload_n hx hb d_Cun_byNumber_160 rfl (lv_at hl 0 rfl) ?_
    refine lv_aload_n hx hb d_Cun_byNumber_161 rfl (lv_at hl 1 rfl) ?_
    refine lv_aload_n hx hb d_Cun_byNumber_162 rfl (lv_at hl 2 rfl) ?_
    refine lv_aload_n hx hb d_Cun_byNumber_163 rfl (lv_at hl 3 rfl) ?_
    refine q_get S hw ly_Cap (21 + (nR2 xb)) (CW_at (by first | decide | omega)) rfl 1 (by decide) tb_1_51 rfl rfl d_Cun_byNumber_164 ?_
    refine lv_i2l (v := (((R (nR2 xb)).2.1).toInt64)) hx hb d_Cun_byNumber_167 rfl ?_
    refine lv_ldc2 (v := 4294967295) hx hb hown (hts _ tb_3_232) d_Cun_byNumber_168 ?_
    refine lv_land hx hb d_Cun_byNumber_171 ?_
    refine q_topl (z := (cLow (R (nR2 xb)).2.1)) (rfl) ?_
    refine lv_iconst (v := 1) hx hb d_Cun_byNumber_172 (by decide) ?_
    refine q_cg (q_runV (As := [.ref ex, .ref (reg (nR1 xb)), .long (cLow (R (nR2 xb)).2.1), .int (jb true)]) (rest := []) S (c_Cun_bounded l D ti ad u pi ex de xi xb di db fi fb ob reg kq ca va fv R (nR1 xb) (by first | decide | omega) (cLow (R (nR2 xb)).2.1) true) (cw_v hts tb_3_233 k_Cun_bounded rfl rfl ⟨by decide, by decide⟩) hw 19 rfl rfl rfl hl.1 rfl (Nat.le_of_ble_eq_true rfl) d_Cun_byNumber_173 ⟨Nat.zero_le _, Nat.zero_le _⟩) hw (fun z hD => CW_D (qD_same hD rfl)) (fun z9 H locs hp9 hw => ?_)
    refine W.eq (g2 := F0 m9 176 ls [.int (-1 : Int32)]) rfl ?_
    have hw : Lv _ _ _ _ _ (CW ad ti u pi ex de xi xb di db fi fb ob reg (kQ (bF (R (nR1 xb))) (bTo (R (nR1 xb)) (cLow (R (nR2 xb)).2.1))) ca va fv (uR R (uBn (R (nR1 xb)) (cLow (R (nR2 xb)).2.1) true) xb)) _ _ _ := hw
    exact hw.riz S hr hlk (rfl) d_Cun_byNumber_176 (kQ (bF (R (nR1 xb))) (bTo (R (nR1 xb)) (cLow (R (nR2 xb)).2.1))) (by unfold xNb; rw [if_neg hc4_1, if_neg hc4_8, if_pos hc4_9]) (trivial) (by unfold xNb; rw [if_neg hc4_1, if_neg hc4_8, if_pos hc4_9])
  by_cases hc4_11 : (nI (nNb xb)) = (11 : Int32)
  · refine lv_lookup (off := 173) (tgt := 177) hx hb d_Cun_byNumber_4 (by decide) (by rw [hc4_11] <;> rfl) rfl ?_
    refine lv_aload_n hx hb d_Cun_byNumber_177 rfl (lv_at hl 0 rfl) ?_
    refine lv_aload_n hx hb d_Cun_byNumber_178 rfl (lv_at hl 1 rfl) ?_
    refine lv_aload_n hx hb d_Cun_byNumber_179 rfl (lv_at hl 2 rfl) ?_
    refine lv_aload_n hx hb d_Cun_byNumber_180 rfl (lv_at hl 3 rfl) ?_
    refine q_cg (q_runV (As := [.ref ex, .ref (reg (nR1 xb)), .ref (reg (nR2 xb))]) (rest := []) S (c_Cun_seal l D ti ad u pi ex de xi xb di db fi fb ob reg kq ca va fv R (nR1 xb) (by first | decide | omega) (nR2 xb) (by first | decide | omega)) (cw_v hts tb_4_8 k_Cun_seal rfl rfl ⟨by decide, by decide⟩) hw 19 rfl rfl rfl hl.1 rfl (Nat.le_of_ble_eq_true rfl) d_Cun_byNumber_181 ⟨Nat.zero_le _, Nat.zero_le _⟩) hw (fun z hD => CW_D (qD_same hD rfl)) (fun z9 H locs hp9 hw => ?_)
    refine W.eq (g2 := F0 m9 184 ls [.int (-1 : Int32)]) rfl ?_
    have hw : Lv _ _ _ _ _ (CW ad ti u pi ex de xi xb di db fi fb ob reg kq ca va fv (uR R (uSl (R (nR1 xb)) (R (nR2 xb))) xb)) _ _ _ := hw
    exact hw.riz S hr hlk (rfl) d_Cun_byNumber_184 kq (by unfold xNb; rw [if_neg hc4_1, if_neg hc4_8, if_neg hc4_9, if_pos hc4_11]) (trivial) (by unfold xNb; rw [if_neg hc4_1, if_neg hc4_8, if_neg hc4_9, if_pos hc4_11])
  by_cases hc4_12 : (nI (nNb xb)) = (12 : Int32)
  · refine lv_lookup (off := 181) (tgt := 185) hx hb d_Cun_byNumber_4 (by decide) (by rw [hc4_12] <;> rfl) rfl ?_
    refine lv_aload_n hx hb d_Cun_byNumber_185 rfl (lv_at hl 0 rfl) ?_
    refine lv_aload_n hx hb d_Cun_byNumber_186 rfl (lv_at hl 1 rfl) ?_
    refine lv_aload_n hx hb d_Cun_byNumber_187 rfl (lv_at hl 2 rfl) ?_
    refine lv_aload_n hx hb d_Cun_byNumber_188 rfl (lv_at hl 3 rfl) ?_
    refine q_cg (q_runV (As := [.ref ex, .ref (reg (nR1 xb)), .ref (reg (nR2 xb))]) (rest := []) S (c_Cun_unseal l D ti ad u pi ex de xi xb di db fi fb ob reg kq ca va fv R (nR1 xb) (by first | decide | omega) (nR2 xb) (by first | decide | omega)) (cw_v hts tb_4_20 k_Cun_unseal rfl rfl ⟨by decide, by decide⟩) hw 19 rfl rfl rfl hl.1 rfl (Nat.le_of_ble_eq_true rfl) d_Cun_byNumber_189 ⟨Nat.zero_le _, Nat.zero_le _⟩) hw (fun z hD => CW_D (qD_same hD rfl)) (fun z9 H locs hp9 hw => ?_)
    refine W.eq (g2 := F0 m9 192 ls [.int (-1 : Int32)]) rfl ?_
    have hw : Lv _ _ _ _ _ (CW ad ti u pi ex de xi xb di db fi fb ob reg kq ca va fv (uR R (uUn (R (nR1 xb)) (R (nR2 xb))) xb)) _ _ _ := hw
    exact hw.riz S hr hlk (rfl) d_Cun_byNumber_192 kq (by unfold xNb; rw [if_neg hc4_1, if_neg hc4_8, if_neg hc4_9, if_neg hc4_11, if_pos hc4_12]) (trivial) (by unfold xNb; rw [if_neg hc4_1, if_neg hc4_8, if_neg hc4_9, if_neg hc4_11, if_pos hc4_12])
  by_cases hc4_13 : (nI (nNb xb)) = (13 : Int32)
  · refine lv_lookup (off := 189) (tgt := 193) hx hb d_Cun_byNumber_4 (by decide) (by rw [hc4_13] <;> rfl) rfl ?_
    refine lv_aload_n hx hb d_Cun_byNumber_193 rfl (lv_at hl 0 rfl) ?_
    refine lv_aload_n hx hb d_Cun_byNumber_194 rfl (lv_at hl 1 rfl) ?_
    refine lv_aload_n hx hb d_Cun_byNumber_195 rfl (lv_at hl 2 rfl) ?_
    refine lv_aload_n hx hb d_Cun_byNumber_196 rfl (lv_at hl 3 rfl) ?_
    refine q_get S hw ly_Cap (21 + (nR2 xb)) (CW_at (by first | decide | omega)) rfl 1 (by decide) tb_1_51 rfl rfl d_Cun_byNumber_197 ?_
    refine q_cg (q_runV (As := [.ref ex, .ref (reg (nR1 xb)), .int ((R (nR2 xb)).2.1)]) (rest := []) S (c_Cun_andPerms l D ti ad u pi ex de xi xb di db fi fb ob reg kq ca va fv R (nR1 xb) (by first | decide | omega) ((R (nR2 xb)).2.1)) (cw_v hts tb_4_31 k_Cun_andPerms rfl rfl ⟨by decide, by decide⟩) hw 19 rfl rfl rfl hl.1 rfl (Nat.le_of_ble_eq_true rfl) d_Cun_byNumber_200 ⟨Nat.zero_le _, Nat.zero_le _⟩) hw (fun z hD => CW_D (qD_same hD rfl)) (fun z9 H locs hp9 hw => ?_)
    refine W.eq (g2 := F0 m9 203 ls [.int (-1 : Int32)]) rfl ?_
    have hw : Lv _ _ _ _ _ (CW ad ti u pi ex de xi xb di db fi fb ob reg kq ca va fv (uR R (uAn (R (nR1 xb)) ((R (nR2 xb)).2.1)) xb)) _ _ _ := hw
    exact hw.riz S hr hlk (rfl) d_Cun_byNumber_203 kq (by unfold xNb; rw [if_neg hc4_1, if_neg hc4_8, if_neg hc4_9, if_neg hc4_11, if_neg hc4_12, if_pos hc4_13]) (trivial) (by unfold xNb; rw [if_neg hc4_1, if_neg hc4_8, if_neg hc4_9, if_neg hc4_11, if_neg hc4_12, if_pos hc4_13])
  by_cases hc4_15 : (nI (nNb xb)) = (15 : Int32)
  · refine lv_lookup (off := 200) (tgt := 204) hx hb d_Cun_byNumber_4 (by decide) (by rw [hc4_15] <;> rfl) rfl ?_
    refine lv_aload_n hx hb d_Cun_byNumber_204 rfl (lv_at hl 0 rfl) ?_
    refine lv_aload_n hx hb d_Cun_byNumber_205 rfl (lv_at hl 1 rfl) ?_
    refine lv_aload_n hx hb d_Cun_byNumber_206 rfl (lv_at hl 2 rfl) ?_
    refine lv_aload_n hx hb d_Cun_byNumber_207 rfl (lv_at hl 2 rfl) ?_
    refine q_get S hw ly_Cap (21 + (nR1 xb)) (CW_at (by first | decide | omega)) rfl 3 (by decide) tb_1_58 rfl rfl d_Cun_byNumber_208 ?_
    refine lv_l2i (v := ((cbase (R (nR1 xb)).2.2 (R (nR1 xb)).2.1).toInt32)) hx hb d_Cun_byNumber_211 rfl ?_
    refine lv_aload_n hx hb d_Cun_byNumber_212 rfl (lv_at hl 3 rfl) ?_
    refine q_get S hw ly_Cap (21 + (nR2 xb)) (CW_at (by first | decide | omega)) rfl 1 (by decide) tb_1_51 rfl rfl d_Cun_byNumber_213 ?_
    refine lv_iadd hx hb d_Cun_byNumber_216 ?_
    refine q_cg (q_runV (As := [.ref ex, .ref (reg (nR1 xb)), .int (((cbase (R (nR1 xb)).2.2 (R (nR1 xb)).2.1).toInt32) + ((R (nR2 xb)).2.1))]) (rest := []) S (c_Cun_move l D ti ad u pi ex de xi xb di db fi fb ob reg kq ca va fv R (nR1 xb) (by first | decide | omega) (((cbase (R (nR1 xb)).2.2 (R (nR1 xb)).2.1).toInt32) + ((R (nR2 xb)).2.1))) (cw_v hts tb_4_35 k_Cun_move rfl rfl ⟨by decide, by decide⟩) hw 19 rfl rfl rfl hl.1 rfl (Nat.le_of_ble_eq_true rfl) d_Cun_byNumber_217 ⟨Nat.zero_le _, Nat.zero_le _⟩) hw (fun z hD => CW_D (qD_same hD rfl)) (fun z9 H locs hp9 hw => ?_)
    refine W.eq (g2 := F0 m9 220 ls [.int (-1 : Int32)]) rfl ?_
    have hw : Lv _ _ _ _ _ (CW ad ti u pi ex de xi xb di db fi fb ob reg kq ca va fv (uR R (cMvC (R (nR1 xb)) (((cbase (R (nR1 xb)).2.2 (R (nR1 xb)).2.1).toInt32) + ((R (nR2 xb)).2.1))) xb)) _ _ _ := hw
    exact hw.riz S hr hlk (rfl) d_Cun_byNumber_220 kq (by unfold xNb; rw [if_neg hc4_1, if_neg hc4_8, if_neg hc4_9, if_neg hc4_11, if_neg hc4_12, if_neg hc4_13, if_pos hc4_15]) (trivial) (by unfold xNb; rw [if_neg hc4_1, if_neg hc4_8, if_neg hc4_9, if_neg hc4_11, if_neg hc4_12, if_neg hc4_13, if_pos hc4_15])
  by_cases hc4_16 : (nI (nNb xb)) = (16 : Int32)
  · refine lv_lookup (off := 217) (tgt := 221) hx hb d_Cun_byNumber_4 (by decide) (by rw [hc4_16] <;> rfl) rfl ?_
    refine lv_aload_n hx hb d_Cun_byNumber_221 rfl (lv_at hl 0 rfl) ?_
    refine lv_aload_n hx hb d_Cun_byNumber_222 rfl (lv_at hl 1 rfl) ?_
    refine lv_aload_n hx hb d_Cun_byNumber_223 rfl (lv_at hl 2 rfl) ?_
    refine lv_aload_n hx hb d_Cun_byNumber_224 rfl (lv_at hl 3 rfl) ?_
    refine q_get S hw ly_Cap (21 + (nR2 xb)) (CW_at (by first | decide | omega)) rfl 1 (by decide) tb_1_51 rfl rfl d_Cun_byNumber_225 ?_
    refine q_cg (q_runV (As := [.ref ex, .ref (reg (nR1 xb)), .int ((R (nR2 xb)).2.1)]) (rest := []) S (c_Cun_move l D ti ad u pi ex de xi xb di db fi fb ob reg kq ca va fv R (nR1 xb) (by first | decide | omega) ((R (nR2 xb)).2.1)) (cw_v hts tb_4_35 k_Cun_move rfl rfl ⟨by decide, by decide⟩) hw 19 rfl rfl rfl hl.1 rfl (Nat.le_of_ble_eq_true rfl) d_Cun_byNumber_228 ⟨Nat.zero_le _, Nat.zero_le _⟩) hw (fun z hD => CW_D (qD_same hD rfl)) (fun z9 H locs hp9 hw => ?_)
    refine W.eq (g2 := F0 m9 231 ls [.int (-1 : Int32)]) rfl ?_
    have hw : Lv _ _ _ _ _ (CW ad ti u pi ex de xi xb di db fi fb ob reg kq ca va fv (uR R (cMvC (R (nR1 xb)) ((R (nR2 xb)).2.1)) xb)) _ _ _ := hw
    exact hw.riz S hr hlk (rfl) d_Cun_byNumber_231 kq (by unfold xNb; rw [if_neg hc4_1, if_neg hc4_8, if_neg hc4_9, if_neg hc4_11, if_neg hc4_12, if_neg hc4_13, if_neg hc4_15, if_pos hc4_16]) (trivial) (by unfold xNb; rw [if_neg hc4_1, if_neg hc4_8, if_neg hc4_9, if_neg hc4_11, if_neg hc4_12, if_neg hc4_13, if_neg hc4_15, if_pos hc4_16])
  by_cases hc4_17 : (nI (nNb xb)) = (17 : Int32)
  · refine lv_lookup (off := 228) (tgt := 232) hx hb d_Cun_byNumber_4 (by decide) (by rw [hc4_17] <;> rfl) rfl ?_
    refine lv_aload_n hx hb d_Cun_byNumber_232 rfl (lv_at hl 0 rfl) ?_
    refine lv_aload_n hx hb d_Cun_byNumber_233 rfl (lv_at hl 1 rfl) ?_
    refine lv_aload_n hx hb d_Cun_byNumber_234 rfl (lv_at hl 2 rfl) ?_
    refine lv_aload_n hx hb d_Cun_byNumber_235 rfl (lv_at hl 2 rfl) ?_
    refine q_get S hw ly_Cap (21 + (nR1 xb)) (CW_at (by first | decide | omega)) rfl 1 (by decide) tb_1_51 rfl rfl d_Cun_byNumber_236 ?_
    refine lv_aload_n hx hb d_Cun_byNumber_239 rfl (lv_at hl 3 rfl) ?_
    refine q_get S hw ly_Cap (21 + (nR2 xb)) (CW_at (by first | decide | omega)) rfl 1 (by decide) tb_1_51 rfl rfl d_Cun_byNumber_240 ?_
    refine lv_iadd hx hb d_Cun_byNumber_243 ?_
    refine q_cg (q_runV (As := [.ref ex, .ref (reg (nR1 xb)), .int (((R (nR1 xb)).2.1) + ((R (nR2 xb)).2.1))]) (rest := []) S (c_Cun_move l D ti ad u pi ex de xi xb di db fi fb ob reg kq ca va fv R (nR1 xb) (by first | decide | omega) (((R (nR1 xb)).2.1) + ((R (nR2 xb)).2.1))) (cw_v hts tb_4_35 k_Cun_move rfl rfl ⟨by decide, by decide⟩) hw 19 rfl rfl rfl hl.1 rfl (Nat.le_of_ble_eq_true rfl) d_Cun_byNumber_244 ⟨Nat.zero_le _, Nat.zero_le _⟩) hw (fun z hD => CW_D (qD_same hD rfl)) (fun z9 H locs hp9 hw => ?_)
    refine W.eq (g2 := F0 m9 247 ls [.int (-1 : Int32)]) rfl ?_
    have hw : Lv _ _ _ _ _ (CW ad ti u pi ex de xi xb di db fi fb ob reg kq ca va fv (uR R (cMvC (R (nR1 xb)) (((R (nR1 xb)).2.1) + ((R (nR2 xb)).2.1))) xb)) _ _ _ := hw
    exact hw.riz S hr hlk (rfl) d_Cun_byNumber_247 kq (by unfold xNb; rw [if_neg hc4_1, if_neg hc4_8, if_neg hc4_9, if_neg hc4_11, if_neg hc4_12, if_neg hc4_13, if_neg hc4_15, if_neg hc4_16, if_pos hc4_17]) (trivial) (by unfold xNb; rw [if_neg hc4_1, if_neg hc4_8, if_neg hc4_9, if_neg hc4_11, if_neg hc4_12, if_neg hc4_13, if_neg hc4_15, if_neg hc4_16, if_pos hc4_17])
  by_cases hc4_20 : (nI (nNb xb)) = (20 : Int32)
  · refine lv_lookup (off := 244) (tgt := 248) hx hb d_Cun_byNumber_4 (by decide) (by rw [hc4_20] <;> rfl) rfl ?_
    refine lv_aload_n hx hb d_Cun_byNumber_248 rfl (lv_at hl 0 rfl) ?_
    refine q_get S hw ly_Cun 19 rfl rfl 0 (by decide) tb_2_56 rfl rfl d_Cun_byNumber_249 ?_
    refine lv_aload_n hx hb d_Cun_byNumber_252 rfl (lv_at hl 1 rfl) ?_
    refine q_get S hw ly_Ins 14 rfl rfl 3 (by decide) tb_1_155 rfl rfl d_Cun_byNumber_253 ?_
    refine lv_aload_n hx hb d_Cun_byNumber_256 rfl (lv_at hl 2 rfl) ?_
    refine q_get S hw ly_Cap (21 + (nR1 xb)) (CW_at (by first | decide | omega)) rfl 1 (by decide) tb_1_51 rfl rfl d_Cun_byNumber_257 ?_
    refine lv_aload_n hx hb d_Cun_byNumber_260 rfl (lv_at hl 3 rfl) ?_
    refine q_get S hw ly_Cap (21 + (nR2 xb)) (CW_at (by first | decide | omega)) rfl 1 (by decide) tb_1_51 rfl rfl d_Cun_byNumber_261 ?_
    refine lv_isub hx hb d_Cun_byNumber_264 ?_
    refine q_cg (q_runV (As := [.int (nI (nRd xb)), .int (((R (nR1 xb)).2.1) - ((R (nR2 xb)).2.1))]) (rest := []) S (c_Sta_answerNumber l D ti ad u pi ex de xi xb di db fi fb ob reg kq ca va fv R (nRd xb) (by first | decide | omega) (((R (nR1 xb)).2.1) - ((R (nR2 xb)).2.1))) (cw_v hts tb_4_44 k_Sta_answerNumber rfl rfl ⟨by decide, by decide⟩) hw 16 rfl rfl rfl hl.1 rfl (Nat.le_of_ble_eq_true rfl) d_Cun_byNumber_265 ⟨Nat.zero_le _, Nat.zero_le _⟩) hw (fun z hD => CW_D (qD_same hD rfl)) (fun z9 H locs hp9 hw => ?_)
    refine W.eq (g2 := F0 m9 268 ls [.int (-1 : Int32)]) rfl ?_
    have hw : Lv _ _ _ _ _ (CW ad ti u pi ex de xi xb di db fi fb ob reg kq ca va fv (nR R (nRd xb) (((R (nR1 xb)).2.1) - ((R (nR2 xb)).2.1)))) _ _ _ := hw
    exact hw.riz S hr hlk (rfl) d_Cun_byNumber_268 kq (by unfold xNb; rw [if_neg hc4_1, if_neg hc4_8, if_neg hc4_9, if_neg hc4_11, if_neg hc4_12, if_neg hc4_13, if_neg hc4_15, if_neg hc4_16, if_neg hc4_17, if_pos hc4_20]) (trivial) (by unfold xNb; rw [if_neg hc4_1, if_neg hc4_8, if_neg hc4_9, if_neg hc4_11, if_neg hc4_12, if_neg hc4_13, if_neg hc4_15, if_neg hc4_16, if_neg hc4_17, if_pos hc4_20])
  by_cases hc4_22 : (nI (nNb xb)) = (22 : Int32)
  · refine lv_lookup (off := 265) (tgt := 269) hx hb d_Cun_byNumber_4 (by decide) (by rw [hc4_22] <;> rfl) rfl ?_
    refine lv_aload_n hx hb d_Cun_byNumber_269 rfl (lv_at hl 0 rfl) ?_
    refine lv_aload_n hx hb d_Cun_byNumber_270 rfl (lv_at hl 1 rfl) ?_
    refine lv_aload_n hx hb d_Cun_byNumber_271 rfl (lv_at hl 2 rfl) ?_
    refine lv_aload_n hx hb d_Cun_byNumber_272 rfl (lv_at hl 3 rfl) ?_
    refine q_get S hw ly_Cap (21 + (nR2 xb)) (CW_at (by first | decide | omega)) rfl 1 (by decide) tb_1_51 rfl rfl d_Cun_byNumber_273 ?_
    refine q_cg (q_runV (As := [.ref ex, .ref (reg (nR1 xb)), .int ((R (nR2 xb)).2.1)]) (rest := []) S (c_Cun_setHigh l D ti ad u pi ex de xi xb di db fi fb ob reg kq ca va fv R (nR1 xb) (by first | decide | omega) ((R (nR2 xb)).2.1)) (cw_v hts tb_4_52 k_Cun_setHigh rfl rfl ⟨by decide, by decide⟩) hw 19 rfl rfl rfl hl.1 rfl (Nat.le_of_ble_eq_true rfl) d_Cun_byNumber_276 ⟨Nat.zero_le _, Nat.zero_le _⟩) hw (fun z hD => CW_D (qD_same hD rfl)) (fun z9 H locs hp9 hw => ?_)
    refine W.eq (g2 := F0 m9 279 ls [.int (-1 : Int32)]) rfl ?_
    have hw : Lv _ _ _ _ _ (CW ad ti u pi ex de xi xb di db fi fb ob reg kq ca va fv (uR R ((false, (R (nR1 xb)).2.1, ((R (nR2 xb)).2.1) ^^^ 1000194) : Cap) xb)) _ _ _ := hw
    exact hw.riz S hr hlk (rfl) d_Cun_byNumber_279 kq (by unfold xNb; rw [if_neg hc4_1, if_neg hc4_8, if_neg hc4_9, if_neg hc4_11, if_neg hc4_12, if_neg hc4_13, if_neg hc4_15, if_neg hc4_16, if_neg hc4_17, if_neg hc4_20, if_pos hc4_22]) (trivial) (by unfold xNb; rw [if_neg hc4_1, if_neg hc4_8, if_neg hc4_9, if_neg hc4_11, if_neg hc4_12, if_neg hc4_13, if_neg hc4_15, if_neg hc4_16, if_neg hc4_17, if_neg hc4_20, if_pos hc4_22])
  by_cases hc4_29 : (nI (nNb xb)) = (29 : Int32)
  · refine lv_lookup (off := 276) (tgt := 280) hx hb d_Cun_byNumber_4 (by decide) (by rw [hc4_29] <;> rfl) rfl ?_
    refine lv_aload_n hx hb d_Cun_byNumber_280 rfl (lv_at hl 0 rfl) ?_
    refine lv_aload_n hx hb d_Cun_byNumber_281 rfl (lv_at hl 1 rfl) ?_
    refine lv_aload_n hx hb d_Cun_byNumber_282 rfl (lv_at hl 2 rfl) ?_
    refine lv_aload_n hx hb d_Cun_byNumber_283 rfl (lv_at hl 3 rfl) ?_
    refine q_cg (q_runV (As := [.ref ex, .ref (reg (nR1 xb)), .ref (reg (nR2 xb))]) (rest := []) S (c_Cun_build l D ti ad u pi ex de xi xb di db fi fb ob reg kq ca va fv R (nR1 xb) (by first | decide | omega) (nR2 xb) (by first | decide | omega)) (cw_v hts tb_4_58 k_Cun_build rfl rfl ⟨by decide, by decide⟩) hw 19 rfl rfl rfl hl.1 rfl (Nat.le_of_ble_eq_true rfl) d_Cun_byNumber_284 ⟨Nat.zero_le _, Nat.zero_le _⟩) hw (fun z hD => CW_D (qD_same hD rfl)) (fun z9 H locs hp9 hw => ?_)
    refine W.eq (g2 := F0 m9 287 ls [.int (-1 : Int32)]) rfl ?_
    have hw : Lv _ _ _ _ _ (CW ad ti u pi ex de xi xb di db fi fb ob reg kq ca va fv (uR R (uBd (R (nR1 xb)) (R (nR2 xb))) xb)) _ _ _ := hw
    exact hw.riz S hr hlk (rfl) d_Cun_byNumber_287 kq (by unfold xNb; rw [if_neg hc4_1, if_neg hc4_8, if_neg hc4_9, if_neg hc4_11, if_neg hc4_12, if_neg hc4_13, if_neg hc4_15, if_neg hc4_16, if_neg hc4_17, if_neg hc4_20, if_neg hc4_22, if_pos hc4_29]) (trivial) (by unfold xNb; rw [if_neg hc4_1, if_neg hc4_8, if_neg hc4_9, if_neg hc4_11, if_neg hc4_12, if_neg hc4_13, if_neg hc4_15, if_neg hc4_16, if_neg hc4_17, if_neg hc4_20, if_neg hc4_22, if_pos hc4_29])
  by_cases hc4_32 : (nI (nNb xb)) = (32 : Int32)
  · refine lv_lookup (off := 284) (tgt := 288) hx hb d_Cun_byNumber_4 (by decide) (by rw [hc4_32] <;> rfl) rfl ?_
    refine lv_aload_n hx hb d_Cun_byNumber_288 rfl (lv_at hl 0 rfl) ?_
    refine q_get S hw ly_Cun 19 rfl rfl 0 (by decide) tb_2_56 rfl rfl d_Cun_byNumber_289 ?_
    refine lv_aload_n hx hb d_Cun_byNumber_292 rfl (lv_at hl 1 rfl) ?_
    refine q_get S hw ly_Ins 14 rfl rfl 3 (by decide) tb_1_155 rfl rfl d_Cun_byNumber_293 ?_
    refine q_join (pcJ := 320) (st := [.int (eqV (R (nR1 xb)) (R (nR2 xb))), .int (nI (nRd xb)), .ref (ob 0)]) (lv' := [(0, .ref (ob 3)), (1, .ref ex), (2, .ref (reg (nR1 xb))), (3, .ref (reg (nR2 xb)))]) (nL := 4) (fun ls hl => ?_) (fun J320 => ?_)
    · refine q_cg (q_runV (As := [.int (nI (nRd xb)), .int (eqV (R (nR1 xb)) (R (nR2 xb)))]) (rest := []) S (c_Sta_answerNumber l D ti ad u pi ex de xi xb di db fi fb ob reg kq ca va fv R (nRd xb) (by first | decide | omega) (eqV (R (nR1 xb)) (R (nR2 xb)))) (cw_v hts tb_4_44 k_Sta_answerNumber rfl rfl ⟨by decide, by decide⟩) hw 16 rfl rfl rfl hl.1 rfl (Nat.le_of_ble_eq_true rfl) d_Cun_byNumber_320 ⟨Nat.zero_le _, Nat.zero_le _⟩) hw (fun z hD => CW_D (qD_same hD rfl)) (fun z9 H locs hp9 hw => ?_)
      refine W.eq (g2 := F0 m9 323 ls [.int (-1 : Int32)]) rfl ?_
      have hw : Lv _ _ _ _ _ (CW ad ti u pi ex de xi xb di db fi fb ob reg kq ca va fv (nR R (nRd xb) (eqV (R (nR1 xb)) (R (nR2 xb))))) _ _ _ := hw
      exact hw.riz S hr hlk (rfl) d_Cun_byNumber_323 kq (by unfold xNb; rw [if_neg hc4_1, if_neg hc4_8, if_neg hc4_9, if_neg hc4_11, if_neg hc4_12, if_neg hc4_13, if_neg hc4_15, if_neg hc4_16, if_neg hc4_17, if_neg hc4_20, if_neg hc4_22, if_neg hc4_29, if_pos hc4_32]) (trivial) (by unfold xNb; rw [if_neg hc4_1, if_neg hc4_8, if_neg hc4_9, if_neg hc4_11, if_neg hc4_12, if_neg hc4_13, if_neg hc4_15, if_neg hc4_16, if_neg hc4_17, if_neg hc4_20, if_neg hc4_22, if_neg hc4_29, if_pos hc4_32])
    · refine lv_aload_n hx hb d_Cun_byNumber_296 rfl (lv_at hl 2 rfl) ?_
      refine q_get S hw ly_Cap (21 + (nR1 xb)) (CW_at (by first | decide | omega)) rfl 0 (by decide) tb_1_46 rfl rfl d_Cun_byNumber_297 ?_
      refine lv_aload_n hx hb d_Cun_byNumber_300 rfl (lv_at hl 3 rfl) ?_
      refine q_get S hw ly_Cap (21 + (nR2 xb)) (CW_at (by first | decide | omega)) rfl 0 (by decide) tb_1_46 rfl rfl d_Cun_byNumber_301 ?_
      refine q_zcmp_ne S d_Cun_byNumber_304 rfl (fun h304 => ?_) (fun h304 => ?_)
      · refine lv_iconst (v := 0) hx hb d_Cun_byNumber_319 (by decide) ?_
        refine q_topi (z := (eqV (R (nR1 xb)) (R (nR2 xb)))) (by simp [eqV, h304]) ?_
        exact J320 _ (lv_sub (l' := [(0, .ref (ob 3)), (1, .ref ex), (2, .ref (reg (nR1 xb))), (3, .ref (reg (nR2 xb)))]) hl [0, 1, 2, 3] rfl)
      · refine lv_aload_n hx hb d_Cun_byNumber_307 rfl (lv_at hl 3 rfl) ?_
        refine lv_aload_n hx hb d_Cun_byNumber_308 rfl (lv_at hl 2 rfl) ?_
        refine q_cr (q_runV (As := [.ref (reg (nR1 xb))]) (rest := [.int (nI (nRd xb)), .ref (ob 0)]) S (w_isW l D ti ad u pi ex de xi xb di db fi fb ob reg kq ca va fv R (nR2 xb) (nR1 xb) (by first | decide | omega) (by first | decide | omega)) (cw_v hts tb_4_62 k_Cap_isWithin rfl rfl ⟨by decide, by decide⟩) hw (21 + (nR2 xb)) (CW_at (by first | decide | omega)) rfl rfl hl.1 rfl (Nat.le_of_ble_eq_true rfl) d_Cun_byNumber_309 ⟨Nat.zero_le _, Nat.zero_le _⟩) ?_
        refine W.eq (g2 := F0 m9 312 ls [.int (jb (cWC (R (nR2 xb)) (R (nR1 xb)))), .int (nI (nRd xb)), .ref (ob 0)]) rfl ?_
        refine q_ifz_eq S d_Cun_byNumber_312 rfl (fun h312 => ?_) (fun h312 => ?_)
        · refine lv_iconst (v := 0) hx hb d_Cun_byNumber_319 (by decide) ?_
          refine q_topi (z := (eqV (R (nR1 xb)) (R (nR2 xb)))) (by simp [eqV, h304, h312]) ?_
          exact J320 _ (lv_sub (l' := [(0, .ref (ob 3)), (1, .ref ex), (2, .ref (reg (nR1 xb))), (3, .ref (reg (nR2 xb)))]) hl [0, 1, 2, 3] rfl)
        · refine lv_iconst (v := 1) hx hb d_Cun_byNumber_315 (by decide) ?_
          refine lv_goto hx hb d_Cun_byNumber_316 rfl ?_
          refine q_topi (z := (eqV (R (nR1 xb)) (R (nR2 xb)))) (by simp [eqV, h304, h312]) ?_
          exact J320 _ (lv_sub (l' := [(0, .ref (ob 3)), (1, .ref ex), (2, .ref (reg (nR1 xb))), (3, .ref (reg (nR2 xb)))]) hl [0, 1, 2, 3] rfl)
  by_cases hc4_126 : (nI (nNb xb)) = (126 : Int32)
  · refine lv_lookup (off := 320) (tgt := 324) hx hb d_Cun_byNumber_4 (by decide) (by rw [hc4_126] <;> rfl) rfl ?_
    refine lv_aload_n hx hb d_Cun_byNumber_324 rfl (lv_at hl 1 rfl) ?_
    refine q_get S hw ly_Ins 14 rfl rfl 3 (by decide) tb_1_155 rfl rfl d_Cun_byNumber_325 ?_
    refine lv_iconst (v := 1) hx hb d_Cun_byNumber_328 (by decide) ?_
    refine lv_icmp_ne hx hb d_Cun_byNumber_329 rfl (fun h329 => ?_) (fun h329 => ?_)
    · refine lv_aload_n hx hb d_Cun_byNumber_342 rfl (lv_at hl 0 rfl) ?_
      refine q_get S hw ly_Cun 19 rfl rfl 0 (by decide) tb_2_56 rfl rfl d_Cun_byNumber_343 ?_
      refine lv_aload_n hx hb d_Cun_byNumber_346 rfl (lv_at hl 1 rfl) ?_
      refine q_cg (q_runV (As := [.ref ex]) (rest := []) S (c_Sta_illegal l D ti ad u pi ex de xi xb di db fi fb ob reg kq ca va fv R) (cw_v hts tb_3_220 k_Sta_illegal rfl rfl ⟨by decide, by decide⟩) hw 16 rfl rfl rfl hl.1 rfl (Nat.le_of_ble_eq_true rfl) d_Cun_byNumber_347 ⟨Nat.zero_le _, Nat.zero_le _⟩) hw (fun z hD => qD_same hD rfl) (fun z9 H locs hp9 hw => ?_)
      refine W.eq (g2 := F0 m9 350 ls [.int (2 : Int32)]) rfl ?_
      have hw : Lv _ _ _ _ _ (CW ad ti u pi ex de xi xb di db fi fb ob reg kq ca va xb R) _ _ _ := hw
      exact hw.riz S hr hlk (rfl) d_Cun_byNumber_350 kq (by unfold xNb; rw [if_neg hc4_1, if_neg hc4_8, if_neg hc4_9, if_neg hc4_11, if_neg hc4_12, if_neg hc4_13, if_neg hc4_15, if_neg hc4_16, if_neg hc4_17, if_neg hc4_20, if_neg hc4_22, if_neg hc4_29, if_neg hc4_32, if_pos hc4_126, if_neg h329]) (trivial) (by unfold xNb; rw [if_neg hc4_1, if_neg hc4_8, if_neg hc4_9, if_neg hc4_11, if_neg hc4_12, if_neg hc4_13, if_neg hc4_15, if_neg hc4_16, if_neg hc4_17, if_neg hc4_20, if_neg hc4_22, if_neg hc4_29, if_neg hc4_32, if_pos hc4_126, if_neg h329])
    · refine lv_aload_n hx hb d_Cun_byNumber_332 rfl (lv_at hl 0 rfl) ?_
      refine lv_aload_n hx hb d_Cun_byNumber_333 rfl (lv_at hl 1 rfl) ?_
      refine lv_aload_n hx hb d_Cun_byNumber_334 rfl (lv_at hl 2 rfl) ?_
      refine lv_aload_n hx hb d_Cun_byNumber_335 rfl (lv_at hl 3 rfl) ?_
      refine q_cg (q_runV (As := [.ref ex, .ref (reg (nR1 xb)), .ref (reg (nR2 xb))]) (rest := []) S (c_Cun_invoke l D ti ad u pi ex de xi xb di db fi fb ob reg kq ca va fv R) (cw_v hts tb_4_63 k_Cun_invoke rfl rfl ⟨by decide, by decide⟩) hw 19 rfl rfl rfl hl.1 rfl (Nat.le_of_ble_eq_true rfl) d_Cun_byNumber_336 ⟨Nat.zero_le _, Nat.zero_le _⟩) hw (fun z hD => CW_D (qD_same hD rfl)) (fun z9 H locs hp9 hw => ?_)
      refine W.eq (g2 := F0 m9 339 ls [.int ((xIv fv R xb).1)]) rfl ?_
      have hw : Lv _ _ _ _ _ (CW ad ti u pi ex de xi xb di db fi fb ob reg kq ca va ((xIv fv R xb).2.1) ((xIv fv R xb).2.2)) _ _ _ := hw
      refine lv_goto hx hb d_Cun_byNumber_339 rfl ?_
      exact hw.riz S hr hlk (rfl) d_Cun_byNumber_350 kq (by unfold xNb; rw [if_neg hc4_1, if_neg hc4_8, if_neg hc4_9, if_neg hc4_11, if_neg hc4_12, if_neg hc4_13, if_neg hc4_15, if_neg hc4_16, if_neg hc4_17, if_neg hc4_20, if_neg hc4_22, if_neg hc4_29, if_neg hc4_32, if_pos hc4_126, if_pos h329]) (trivial) (by unfold xNb; rw [if_neg hc4_1, if_neg hc4_8, if_neg hc4_9, if_neg hc4_11, if_neg hc4_12, if_neg hc4_13, if_neg hc4_15, if_neg hc4_16, if_neg hc4_17, if_neg hc4_20, if_neg hc4_22, if_neg hc4_29, if_neg hc4_32, if_pos hc4_126, if_pos h329])
  by_cases hc4_127 : (nI (nNb xb)) = (127 : Int32)
  · refine lv_lookup (off := 347) (tgt := 351) hx hb d_Cun_byNumber_4 (by decide) (by rw [hc4_127] <;> rfl) rfl ?_
    refine lv_aload_n hx hb d_Cun_byNumber_351 rfl (lv_at hl 0 rfl) ?_
    refine lv_aload_n hx hb d_Cun_byNumber_352 rfl (lv_at hl 1 rfl) ?_
    refine lv_aload_n hx hb d_Cun_byNumber_353 rfl (lv_at hl 2 rfl) ?_
    refine q_cg (q_runV (As := [.ref ex, .ref (reg (nR1 xb))]) (rest := []) S (c_Cun_inspect l D ti ad u pi ex de xi xb di db fi fb ob reg kq ca va fv R) (cw_v hts tb_4_73 k_Cun_inspect rfl rfl ⟨by decide, by decide⟩) hw 19 rfl rfl rfl hl.1 rfl (Nat.le_of_ble_eq_true rfl) d_Cun_byNumber_354 ⟨Nat.zero_le _, Nat.zero_le _⟩) hw (fun z hD => CW_D (qD_same hD rfl)) (fun kq57 H locs hp9 hw => ?_)
    refine W.eq (g2 := F0 m9 357 ls [.int ((xIn fv R (R (nR1 xb)) xb).1)]) rfl ?_
    have hw : Lv _ _ _ _ _ (CW ad ti u pi ex de xi xb di db fi fb ob reg kq57 ca va ((xIn fv R (R (nR1 xb)) xb).2.1) ((xIn fv R (R (nR1 xb)) xb).2.2)) _ _ _ := hw
    exact hw.riz S hr hlk (rfl) d_Cun_byNumber_357 kq57 (by unfold xNb; rw [if_neg hc4_1, if_neg hc4_8, if_neg hc4_9, if_neg hc4_11, if_neg hc4_12, if_neg hc4_13, if_neg hc4_15, if_neg hc4_16, if_neg hc4_17, if_neg hc4_20, if_neg hc4_22, if_neg hc4_29, if_neg hc4_32, if_neg hc4_126, if_pos hc4_127]) (trivial) (by unfold xNb; rw [if_neg hc4_1, if_neg hc4_8, if_neg hc4_9, if_neg hc4_11, if_neg hc4_12, if_neg hc4_13, if_neg hc4_15, if_neg hc4_16, if_neg hc4_17, if_neg hc4_20, if_neg hc4_22, if_neg hc4_29, if_neg hc4_32, if_neg hc4_126, if_pos hc4_127])
  refine lv_lookup (off := 354) (tgt := 358) hx hb d_Cun_byNumber_4 (by decide) (by show Op.lookupswitch.offset [(1, 132), (8, 139), (9, 156), (11, 173), (12, 181), (13, 189), (15, 200), (16, 217), (17, 228), (20, 244), (22, 265), (29, 276), (32, 284), (126, 320), (127, 347)] 354 (Int32.toInt (nI (nNb xb))) = 354; rw [lv_osw (a := 1) hc4_1 rfl, lv_osw (a := 8) hc4_8 rfl, lv_osw (a := 9) hc4_9 rfl, lv_osw (a := 11) hc4_11 rfl, lv_osw (a := 12) hc4_12 rfl, lv_osw (a := 13) hc4_13 rfl, lv_osw (a := 15) hc4_15 rfl, lv_osw (a := 16) hc4_16 rfl, lv_osw (a := 17) hc4_17 rfl, lv_osw (a := 20) hc4_20 rfl, lv_osw (a := 22) hc4_22 rfl, lv_osw (a := 29) hc4_29 rfl, lv_osw (a := 32) hc4_32 rfl, lv_osw (a := 126) hc4_126 rfl, lv_osw (a := 127) hc4_127 rfl] <;> rfl) rfl ?_
  refine lv_aload_n hx hb d_Cun_byNumber_358 rfl (lv_at hl 0 rfl) ?_
  refine q_get S hw ly_Cun 19 rfl rfl 0 (by decide) tb_2_56 rfl rfl d_Cun_byNumber_359 ?_
  refine lv_aload_n hx hb d_Cun_byNumber_362 rfl (lv_at hl 1 rfl) ?_
  refine q_cg (q_runV (As := [.ref ex]) (rest := []) S (c_Sta_illegal l D ti ad u pi ex de xi xb di db fi fb ob reg kq ca va fv R) (cw_v hts tb_3_220 k_Sta_illegal rfl rfl ⟨by decide, by decide⟩) hw 16 rfl rfl rfl hl.1 rfl (Nat.le_of_ble_eq_true rfl) d_Cun_byNumber_363 ⟨Nat.zero_le _, Nat.zero_le _⟩) hw (fun z hD => qD_same hD rfl) (fun z9 H locs hp9 hw => ?_)
  refine W.eq (g2 := F0 m9 366 ls [.int (2 : Int32)]) rfl ?_
  have hw : Lv _ _ _ _ _ (CW ad ti u pi ex de xi xb di db fi fb ob reg kq ca va xb R) _ _ _ := hw
  exact hw.riz S hr hlk (rfl) d_Cun_byNumber_366 kq (by unfold xNb; rw [if_neg hc4_1, if_neg hc4_8, if_neg hc4_9, if_neg hc4_11, if_neg hc4_12, if_neg hc4_13, if_neg hc4_15, if_neg hc4_16, if_neg hc4_17, if_neg hc4_20, if_neg hc4_22, if_neg hc4_29, if_neg hc4_32, if_neg hc4_126, if_neg hc4_127]) (trivial) (by unfold xNb; rw [if_neg hc4_1, if_neg hc4_8, if_neg hc4_9, if_neg hc4_11, if_neg hc4_12, if_neg hc4_13, if_neg hc4_15, if_neg hc4_16, if_neg hc4_17, if_neg hc4_20, if_neg hc4_22, if_neg hc4_29, if_neg hc4_32, if_neg hc4_126, if_neg hc4_127])
set_option maxHeartbeats 4000000 in
set_option maxRecDepth 100000 in
theorem c_Cun_execute (l : Launch) (D : va_G) (ti : Nat → ClassId) (ad : Nat → Nat) (u : MT) (pi ex de : Nat) (xi xb di db fi fb : Int32) (ob reg : Nat → Nat) (kq : Int32 × Bool × Bool × Int32 × Int64) (ca va fv : Int32) (R : Nat → Cap) : Cg l y_Cun_execute (wl y_Cun_execute b_Cun_execute 3 (some .int)) (rmL 6) D clz (ty4 ti) [.ref (ob 3), .ref ex] (CW ad ti u pi ex de xi xb di db fi fb ob reg kq ca va fv R) (fun z : Int32 × Bool × Bool × Int32 × Int64 => some (.int (xU fv R xb).1)) (fun z => (CW ad ti u pi ex de xi xb di db fi fb ob reg z ca va ((xU fv R xb).2.1) ((xU fv R xb).2.2))) (fun _ => True) := by
  refine Cg.ofF (plainFor_of_name (by decide)) (Nat.le_of_ble_eq_true rfl) ?_
  intro p9 e9 s9 m9 b9 me9 c9 ls S hr hlk hl hw
  obtain ⟨hx, hb, hml, hown, hts⟩ := id S
  have hl : lv_has ls 3 [(0, .ref (ob 3)), (1, .ref ex)] := hl
  have hr1 := nR1_lt xb
  have hr2 := nR2_lt xb
  have hrd := nRd_lt xb
  refine lv_aload_n hx hb d_Cun_execute_0 rfl (lv_at hl 0 rfl) ?_
  refine q_get S hw ly_Cun 19 rfl rfl 0 (by decide) tb_2_56 rfl rfl d_Cun_execute_1 ?_
  refine q_get S hw ly_Sta 16 rfl rfl 0 (by decide) tb_1_207 rfl rfl d_Cun_execute_4 ?_
  refine lv_aload_n hx hb d_Cun_execute_7 rfl (lv_at hl 1 rfl) ?_
  refine q_get S hw ly_Ins 14 rfl rfl 5 (by decide) tb_1_159 rfl rfl d_Cun_execute_8 ?_
  refine q_aaldN (k := (nR1 xb)) S hw 17 3 rfl rfl (by first | assumption | omega) (by decide) d_Cun_execute_11 ?_
  refine lv_astore_n (lv' := [(2, .ref (reg (nR1 xb))), (0, .ref (ob 3)), (1, .ref ex)]) hx hb d_Cun_execute_12 rfl hl (by decide) rfl (fun ls hl => ?_)
  refine lv_aload_n hx hb d_Cun_execute_13 rfl (lv_at hl 2 rfl) ?_
  refine q_get S hw ly_Ins 14 rfl rfl 4 (by decide) tb_1_156 rfl rfl d_Cun_execute_14 ?_
  refine q_topi (z := (nI (nFn xb))) rfl ?_
  by_cases hc17_0 : (nI (nFn xb)) = (0 : Int32)
  · refine lv_tableIn hx hb d_Cun_execute_17 (by rw [hc17_0]; decide) (by rw [hc17_0]; decide) (by rw [hc17_0]; rfl) rfl ?_
    refine lv_aload_n hx hb d_Cun_execute_44 rfl (lv_at hl 1 rfl) ?_
    refine lv_aload_n hx hb d_Cun_execute_45 rfl (lv_at hl 2 rfl) ?_
    refine lv_aload_n hx hb d_Cun_execute_46 rfl (lv_at hl 0 rfl) ?_
    refine lv_aload_n hx hb d_Cun_execute_47 rfl (lv_at hl 1 rfl) ?_
    refine q_get S hw ly_Cun 19 rfl rfl 0 (by decide) tb_2_56 rfl rfl d_Cun_execute_48 ?_
    refine q_get S hw ly_Sta 16 rfl rfl 0 (by decide) tb_1_207 rfl rfl d_Cun_execute_51 ?_
    refine lv_aload_n hx hb d_Cun_execute_54 rfl (lv_at hl 2 rfl) ?_
    refine q_get S hw ly_Ins 14 rfl rfl 6 (by decide) tb_1_162 rfl rfl d_Cun_execute_55 ?_
    refine q_aaldN (k := (nR2 xb)) S hw 17 3 rfl rfl (by first | assumption | omega) (by decide) d_Cun_execute_58 ?_
    refine q_cg (q_runV (As := [.ref ex, .ref (reg (nR1 xb)), .ref (reg (nR2 xb))]) (rest := []) S (c_Cun_byNumber l D ti ad u pi ex de xi xb di db fi fb ob reg kq ca va fv R) (cw_v hts tb_3_212 k_Cun_byNumber rfl rfl ⟨by decide, by decide⟩) hw 19 rfl rfl rfl hl.1 rfl (Nat.le_of_ble_eq_true rfl) d_Cun_execute_59 ⟨Nat.zero_le _, Nat.zero_le _⟩) hw (fun z hD => CW_D (qD_same hD rfl)) (fun kq58 H locs hp9 hw => ?_)
    refine W.eq (g2 := F0 m9 62 ls [.int ((xNb fv R (R (nR1 xb)) (R (nR2 xb)) xb).1)]) rfl ?_
    have hw : Lv _ _ _ _ _ (CW ad ti u pi ex de xi xb di db fi fb ob reg kq58 ca va ((xNb fv R (R (nR1 xb)) (R (nR2 xb)) xb).2.1) ((xNb fv R (R (nR1 xb)) (R (nR2 xb)) xb).2.2)) _ _ _ := hw
    exact hw.riz S hr hlk (rfl) d_Cun_execute_62 kq58 (by unfold xU; rw [if_pos hc17_0]) (trivial) (by unfold xU; rw [if_pos hc17_0])
  by_cases hc17_1 : (nI (nFn xb)) = (1 : Int32)
  · refine lv_tableIn hx hb d_Cun_execute_17 (by rw [hc17_1]; decide) (by rw [hc17_1]; decide) (by rw [hc17_1]; rfl) rfl ?_
    refine lv_aload_n hx hb d_Cun_execute_63 rfl (lv_at hl 1 rfl) ?_
    refine lv_aload_n hx hb d_Cun_execute_64 rfl (lv_at hl 2 rfl) ?_
    refine lv_aload_n hx hb d_Cun_execute_65 rfl (lv_at hl 0 rfl) ?_
    refine lv_aload_n hx hb d_Cun_execute_66 rfl (lv_at hl 0 rfl) ?_
    refine q_get S hw ly_Cap (21 + (nR1 xb)) (CW_at (by first | decide | omega)) rfl 1 (by decide) tb_1_51 rfl rfl d_Cun_execute_67 ?_
    refine lv_aload_n hx hb d_Cun_execute_70 rfl (lv_at hl 2 rfl) ?_
    refine q_get S hw ly_Ins 14 rfl rfl 8 (by decide) tb_1_168 rfl rfl d_Cun_execute_71 ?_
    refine lv_iadd hx hb d_Cun_execute_74 ?_
    refine q_cg (q_runV (As := [.ref ex, .ref (reg (nR1 xb)), .int (((R (nR1 xb)).2.1) + (iIm xb))]) (rest := []) S (c_Cun_move l D ti ad u pi ex de xi xb di db fi fb ob reg kq ca va fv R (nR1 xb) (by first | decide | omega) (((R (nR1 xb)).2.1) + (iIm xb))) (cw_v hts tb_4_35 k_Cun_move rfl rfl ⟨by decide, by decide⟩) hw 19 rfl rfl rfl hl.1 rfl (Nat.le_of_ble_eq_true rfl) d_Cun_execute_75 ⟨Nat.zero_le _, Nat.zero_le _⟩) hw (fun z hD => CW_D (qD_same hD rfl)) (fun z9 H locs hp9 hw => ?_)
    refine W.eq (g2 := F0 m9 78 ls [.int (-1 : Int32)]) rfl ?_
    have hw : Lv _ _ _ _ _ (CW ad ti u pi ex de xi xb di db fi fb ob reg kq ca va fv (uR R (cMvC (R (nR1 xb)) (((R (nR1 xb)).2.1) + (iIm xb))) xb)) _ _ _ := hw
    exact hw.riz S hr hlk (rfl) d_Cun_execute_78 kq (by unfold xU; rw [if_neg hc17_0, if_pos hc17_1]) (trivial) (by unfold xU; rw [if_neg hc17_0, if_pos hc17_1])
  by_cases hc17_2 : (nI (nFn xb)) = (2 : Int32)
  · refine lv_tableIn hx hb d_Cun_execute_17 (by rw [hc17_2]; decide) (by rw [hc17_2]; decide) (by rw [hc17_2]; rfl) rfl ?_
    refine lv_aload_n hx hb d_Cun_execute_79 rfl (lv_at hl 1 rfl) ?_
    refine lv_aload_n hx hb d_Cun_execute_80 rfl (lv_at hl 2 rfl) ?_
    refine lv_aload_n hx hb d_Cun_execute_81 rfl (lv_at hl 0 rfl) ?_
    refine lv_aload_n hx hb d_Cun_execute_82 rfl (lv_at hl 2 rfl) ?_
    refine q_get S hw ly_Ins 14 rfl rfl 8 (by decide) tb_1_168 rfl rfl d_Cun_execute_83 ?_
    refine lv_sipush (v := 4095) hx hb d_Cun_execute_86 (by decide) ?_
    refine lv_iand hx hb d_Cun_execute_89 ?_
    refine lv_i2l (v := (((iIm xb) &&& (4095 : Int32)).toInt64)) hx hb d_Cun_execute_90 rfl ?_
    refine lv_iconst (v := 0) hx hb d_Cun_execute_91 (by decide) ?_
    refine q_cg (q_runV (As := [.ref ex, .ref (reg (nR1 xb)), .long (((iIm xb) &&& (4095 : Int32)).toInt64), .int (jb false)]) (rest := []) S (c_Cun_bounded l D ti ad u pi ex de xi xb di db fi fb ob reg kq ca va fv R (nR1 xb) (by first | decide | omega) (((iIm xb) &&& (4095 : Int32)).toInt64) false) (cw_v hts tb_3_233 k_Cun_bounded rfl rfl ⟨by decide, by decide⟩) hw 19 rfl rfl rfl hl.1 rfl (Nat.le_of_ble_eq_true rfl) d_Cun_execute_92 ⟨Nat.zero_le _, Nat.zero_le _⟩) hw (fun z hD => CW_D (qD_same hD rfl)) (fun z9 H locs hp9 hw => ?_)
    refine W.eq (g2 := F0 m9 95 ls [.int (-1 : Int32)]) rfl ?_
    have hw : Lv _ _ _ _ _ (CW ad ti u pi ex de xi xb di db fi fb ob reg (kQ (bF (R (nR1 xb))) (bTo (R (nR1 xb)) (((iIm xb) &&& (4095 : Int32)).toInt64))) ca va fv (uR R (uBn (R (nR1 xb)) (((iIm xb) &&& (4095 : Int32)).toInt64) false) xb)) _ _ _ := hw
    exact hw.riz S hr hlk (rfl) d_Cun_execute_95 (kQ (bF (R (nR1 xb))) (bTo (R (nR1 xb)) (((iIm xb) &&& (4095 : Int32)).toInt64))) (by unfold xU; rw [if_neg hc17_0, if_neg hc17_1, if_pos hc17_2]) (trivial) (by unfold xU; rw [if_neg hc17_0, if_neg hc17_1, if_pos hc17_2])
  refine lv_tableOut hx hb d_Cun_execute_17 (by have := lv_neT hc17_0 (a := 0) rfl; have := lv_neT hc17_1 (a := 1) rfl; have := lv_neT hc17_2 (a := 2) rfl; omega) rfl ?_
  refine lv_aload_n hx hb d_Cun_execute_96 rfl (lv_at hl 1 rfl) ?_
  refine q_get S hw ly_Cun 19 rfl rfl 0 (by decide) tb_2_56 rfl rfl d_Cun_execute_97 ?_
  refine lv_aload_n hx hb d_Cun_execute_100 rfl (lv_at hl 2 rfl) ?_
  refine q_cg (q_runV (As := [.ref ex]) (rest := []) S (c_Sta_illegal l D ti ad u pi ex de xi xb di db fi fb ob reg kq ca va fv R) (cw_v hts tb_3_220 k_Sta_illegal rfl rfl ⟨by decide, by decide⟩) hw 16 rfl rfl rfl hl.1 rfl (Nat.le_of_ble_eq_true rfl) d_Cun_execute_101 ⟨Nat.zero_le _, Nat.zero_le _⟩) hw (fun z hD => qD_same hD rfl) (fun z9 H locs hp9 hw => ?_)
  refine W.eq (g2 := F0 m9 104 ls [.int (2 : Int32)]) rfl ?_
  have hw : Lv _ _ _ _ _ (CW ad ti u pi ex de xi xb di db fi fb ob reg kq ca va xb R) _ _ _ := hw
  exact hw.riz S hr hlk (rfl) d_Cun_execute_104 kq (by unfold xU; rw [if_neg hc17_0, if_neg hc17_1, if_neg hc17_2]) (trivial) (by unfold xU; rw [if_neg hc17_0, if_neg hc17_1, if_neg hc17_2])
