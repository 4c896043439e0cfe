/-! BaseUnit: stores, and what execute does. -/
def scW (w : Nat → Int32) (i : Nat) (c : Cap) : Nat → Int32 := upd (upd w i c.2.1) (i + 1) (cTold c.2.2)
def scG (g : Nat → Int32) (i : Nat) (c : Cap) : Nat → Int32 := if c.1 = false then gOff (gOff g i) (i + 1) else gOn (gOff (gOff g i) (i + 1)) i
def dSq (di fi : Int32) (i : Nat) : Int32 := pSq (pSq di fi i di) (pSq di fi i fi) (i + 1) (pSq di fi i di)
def fSq (di fi : Int32) (i : Nat) : Int32 := pSq (pSq di fi i di) (pSq di fi i fi) (i + 1) (pSq di fi i fi)
theorem upd_off {f : Nat → Int32} {k : Nat} {x : Int32} : ∀ j, j ≠ k → upd f k x j = f j := fun j h => by simp [upd, h]
theorem PF.sc {di db fi fb : Int32} {w : Nat → Int32} (h1 : PF di db w) (h2 : PF fi fb w) (i : Nat) (c : Cap) : PF (dSq di fi i) db (scW w i c) ∧ PF (fSq di fi i) fb (scW w i c) :=
  ⟨PF.sq1 (PF.sq1 h1 (w' := upd w i c.2.1) upd_off) upd_off, PF.sq2 (PF.sq2 h2 (w' := upd w i c.2.1) upd_off) upd_off⟩
def snM (n : Int32) (X : Nat) : Int32 := if n = 4 then -1 else (((1 : Int32) <<< (((8 : Int32) * n) &&& 31)) - 1) <<< (nI (8 * (X % 4)) &&& 31)
def snW (w : Nat → Int32) (X : Nat) (n v : Int32) : Nat → Int32 := upd w (X / 4) ((w (X / 4) &&& (snM n X ^^^ (-1))) ||| ((v <<< (nI (8 * (X % 4)) &&& 31)) &&& snM n X))
def stN (x : Int32) : Int32 := (1 : Int32) <<< (nI (nFn x) &&& 31)
def stA (R : Nat → Cap) (x : Int32) : Int32 := authF (R (nR1 x)) 3 19
def stP1 (fv : Int32) (R : Nat → Cap) (x : Int32) : Int32 × Int32 := plF (aFv fv (nR1 x) (stA R x)) (nR1 x) (R (nR1 x)) (ldX R x) (stN x) 6
def stP2 (fv : Int32) (R : Nat → Cap) (x : Int32) : Int32 × Int32 := plF (aFv (aFv fv (nR1 x) (stA R x)) (nR1 x) (stF R x)) (nR1 x) (R (nR1 x)) (ldX R x) (stN x) 6
def xSt (fv : Int32) (R : Nat → Cap) (w g : Nat → Int32) (x : Int32) : Int32 × Int32 × (Nat → Int32) × (Nat → Int32) :=
  if nI (nFn x) ≤ 3 then (if aTr (stA R x) = -1 then (if stN x = 8 then
      (if aTr (stF R x) = -1 then (if (stP2 fv R x).1 = -1 then (-1, (stP2 fv R x).2, scW w ((ldX R x).toNatClampNeg / 4) (R (nR2 x)), scG g ((ldX R x).toNatClampNeg / 4) (R (nR2 x))) else ((stP2 fv R x).1, (stP2 fv R x).2, w, g)) else (aTr (stF R x), aFv (aFv fv (nR1 x) (stA R x)) (nR1 x) (stF R x), w, g))
    else (if (stP1 fv R x).1 = -1 then (-1, (stP1 fv R x).2, snW w (ldX R x).toNatClampNeg (stN x) (R (nR2 x)).2.1, gOff g ((ldX R x).toNatClampNeg / 4)) else ((stP1 fv R x).1, (stP1 fv R x).2, w, g))) else (aTr (stA R x), aFv fv (nR1 x) (stA R x), w, g)) else (2, x, w, g)
/-- code, fault value, registers, cause, value, words, tags -/
abbrev XC : Type := Int32 × Int32 × (Nat → Cap) × Int32 × Int32 × (Nat → Int32) × (Nat → Int32)
def xoc (o : OC) (ca va : Int32) (w g : Nat → Int32) : XC := (o.1, o.2.1, o.2.2, ca, va, w, g)
def xB (fv ca va : Int32) (R : Nat → Cap) (w g : Nat → Int32) (x : Int32) : XC :=
  if nI (nOp x) = 3 then xoc (xLd fv R w g x) ca va w g
  else if nI (nOp x) = 15 then (if nI (nFn x) = 0 then (-1, fv, R, ca, va, w, g) else (2, x, R, ca, va, w, g))
  else if nI (nOp x) = 19 then xoc (xOi fv R x) ca va w g
  else if nI (nOp x) = 23 then xoc (xAdd fv R x) ca va w g
  else if nI (nOp x) = 35 then ((xSt fv R w g x).1, (xSt fv R w g x).2.1, R, ca, va, (xSt fv R w g x).2.2.1, (xSt fv R w g x).2.2.2)
  else if nI (nOp x) = 51 then xoc (xOp fv R x) ca va w g
  else if nI (nOp x) = 55 then (-1, fv, nR R (nRd x) (iIm x), ca, va, w, g)
  else if nI (nOp x) = 99 then xoc (xBr fv R x) ca va w g
  else if nI (nOp x) = 103 then xoc (xJr fv R x) ca va w g
  else if nI (nOp x) = 111 then xoc (xJal fv R x) ca va w g
  else if nI (nOp x) = 115 then ((xSys fv ca va R x).1, (xSys fv ca va R x).2.1, (xSys fv ca va R x).2.2.1, (xSys fv ca va R x).2.2.2.1, (xSys fv ca va R x).2.2.2.2, w, g)
  else (2, x, R, ca, va, w, g)
theorem n83 : ∀ f, f < 8 → nI f ≤ 3 → (1 : Int32) <<< (nI f &&& 31) = 8 → f = 3 := by decide +kernel
set_option maxHeartbeats 4000000 in
set_option maxRecDepth 100000 in
theorem c_Bas_capabilityStoreFault (l : Launch) (D : va_G) (ti : Nat → ClassId) (ad : Nat → Nat) (u : MT) (pi ex de : Nat) (xi xb di db fi fb : Int32) (ob reg : Nat → Nat) (kq : Int32 × Bool × Bool × Int32 × Int64) (ca va fv : Int32) (R : Nat → Cap) : Cg l y_Bas_capabilityStoreFault (wl y_Bas_capabilityStoreFault b_Bas_capabilityStoreFault 4 (some .int)) (rmL 2) D clz (ty4 ti) [.ref (ob 2), .ref ex] (CW ad ti u pi ex de xi xb di db fi fb ob reg kq ca va fv R) (fun _ : Unit => some (.int (aTr (stF R xb)))) (fun _ => (CW ad ti u pi ex de xi xb di db fi fb ob reg kq ca va (aFv fv (nR1 xb) (stF R xb)) R)) (fun _ => True) := by
  refine Cg.ofF (plainFor_of_name (by decide)) (Nat.le_of_ble_eq_true rfl) ?_
  intro p9 e9 s9 m9 b9 me9 c9 ls S hr hlk hl hw
  obtain ⟨hx, hb, hml, hown, hts⟩ := id S
  have hl : lv_has ls 4 [(0, .ref (ob 2)), (1, .ref ex)] := hl
  have hr1 := nR1_lt xb
  have hr2 := nR2_lt xb
  have hrd := nRd_lt xb
  refine lv_aload_n hx hb d_Bas_capabilityStoreFault_0 rfl (lv_at hl 0 rfl) ?_
  refine q_get S hw ly_Bas 18 rfl rfl 0 (by decide) tb_2_14 rfl rfl d_Bas_capabilityStoreFault_1 ?_
  refine q_get S hw ly_Sta 16 rfl rfl 0 (by decide) tb_1_209 rfl rfl d_Bas_capabilityStoreFault_4 ?_
  refine lv_aload_n hx hb d_Bas_capabilityStoreFault_7 rfl (lv_at hl 1 rfl) ?_
  refine q_get S hw ly_Ins 14 rfl rfl 5 (by decide) tb_1_161 rfl rfl d_Bas_capabilityStoreFault_8 ?_
  refine q_aaldN (k := (nR1 xb)) S hw 17 3 rfl rfl (by first | assumption | omega) (by decide) d_Bas_capabilityStoreFault_11 ?_
  refine lv_astore_n (lv' := [(2, .ref (reg (nR1 xb))), (0, .ref (ob 2)), (1, .ref ex)]) hx hb d_Bas_capabilityStoreFault_12 rfl hl (by decide) rfl (fun ls hl => ?_)
  refine lv_aload_n hx hb d_Bas_capabilityStoreFault_13 rfl (lv_at hl 1 rfl) ?_
  refine q_get S hw ly_Bas 18 rfl rfl 0 (by decide) tb_2_14 rfl rfl d_Bas_capabilityStoreFault_14 ?_
  refine q_get S hw ly_Sta 16 rfl rfl 0 (by decide) tb_1_209 rfl rfl d_Bas_capabilityStoreFault_17 ?_
  refine lv_aload_n hx hb d_Bas_capabilityStoreFault_20 rfl (lv_at hl 2 rfl) ?_
  refine q_get S hw ly_Ins 14 rfl rfl 6 (by decide) tb_1_164 rfl rfl d_Bas_capabilityStoreFault_21 ?_
  refine q_aaldN (k := (nR2 xb)) S hw 17 3 rfl rfl (by first | assumption | omega) (by decide) d_Bas_capabilityStoreFault_24 ?_
  refine lv_astore_n (lv' := [(3, .ref (reg (nR2 xb))), (2, .ref (reg (nR1 xb))), (0, .ref (ob 2)), (1, .ref ex)]) hx hb d_Bas_capabilityStoreFault_25 rfl hl (by decide) rfl (fun ls hl => ?_)
  refine lv_aload_n hx hb d_Bas_capabilityStoreFault_26 rfl (lv_at hl 0 rfl) ?_
  refine q_get S hw ly_Cap (21 + (nR2 xb)) (CW_at (by first | decide | omega)) rfl 0 (by decide) tb_1_49 rfl rfl d_Bas_capabilityStoreFault_27 ?_
  refine q_ifz_eq S d_Bas_capabilityStoreFault_30 rfl (fun h30 => ?_) (fun h30 => ?_)
  · refine lv_aload_n hx hb d_Bas_capabilityStoreFault_55 rfl (lv_at hl 0 rfl) ?_
    refine q_get S hw ly_Cap (21 + (nR2 xb)) (CW_at (by first | decide | omega)) rfl 0 (by decide) tb_1_49 rfl rfl d_Bas_capabilityStoreFault_56 ?_
    refine q_ifz_eq S d_Bas_capabilityStoreFault_59 rfl (fun h59 => ?_) (fun h59 => ?_)
    · refine lv_iconst (v := -1) hx hb d_Bas_capabilityStoreFault_93 (by decide) ?_
      exact hw.riz S hr hlk (rfl) d_Bas_capabilityStoreFault_94 () (by simp [stF, aTr, h30, h59]) (trivial) (by simp [stF, aFv, h30, h59])
    · exact absurd (h30.symm.trans h59) (by decide)
  · refine lv_aload_n hx hb d_Bas_capabilityStoreFault_33 rfl (lv_at hl 1 rfl) ?_
    refine lv_iconst (v := 5) hx hb d_Bas_capabilityStoreFault_34 (by decide) ?_
    refine q_cr (q_runV (As := [.int (5 : Int32)]) (rest := []) S (w_may l D ti ad u pi ex de xi xb di db fi fb ob reg kq ca va fv R (nR1 xb) (by first | decide | omega) (5 : Int32)) (cw_v hts tb_4_113 k_Cap_may rfl rfl ⟨by decide, by decide⟩) hw (21 + (nR1 xb)) (CW_at (by first | decide | omega)) rfl rfl hl.1 rfl (Nat.le_of_ble_eq_true rfl) d_Bas_capabilityStoreFault_35 ⟨Nat.zero_le _, Nat.zero_le _⟩) ?_
    refine W.eq (g2 := F0 m9 38 ls [.int (jb (cMay (R (nR1 xb)).2.2 (5 : Int32)))]) rfl ?_
    refine q_ifz_ne S d_Bas_capabilityStoreFault_38 rfl (fun h38 => ?_) (fun h38 => ?_)
    · refine lv_aload_n hx hb d_Bas_capabilityStoreFault_55 rfl (lv_at hl 0 rfl) ?_
      refine q_get S hw ly_Cap (21 + (nR2 xb)) (CW_at (by first | decide | omega)) rfl 0 (by decide) tb_1_49 rfl rfl d_Bas_capabilityStoreFault_56 ?_
      refine q_ifz_eq S d_Bas_capabilityStoreFault_59 rfl (fun h59 => ?_) (fun h59 => ?_)
      · exact absurd (h30.symm.trans h59) (by decide)
      · refine lv_aload_n hx hb d_Bas_capabilityStoreFault_62 rfl (lv_at hl 0 rfl) ?_
        refine lv_iconst (v := 0) hx hb d_Bas_capabilityStoreFault_63 (by decide) ?_
        refine q_cr (q_runV (As := [.int (0 : Int32)]) (rest := []) S (w_may l D ti ad u pi ex de xi xb di db fi fb ob reg kq ca va fv R (nR2 xb) (by first | decide | omega) (0 : Int32)) (cw_v hts tb_4_113 k_Cap_may rfl rfl ⟨by decide, by decide⟩) hw (21 + (nR2 xb)) (CW_at (by first | decide | omega)) rfl rfl hl.1 rfl (Nat.le_of_ble_eq_true rfl) d_Bas_capabilityStoreFault_64 ⟨Nat.zero_le _, Nat.zero_le _⟩) ?_
        refine W.eq (g2 := F0 m9 67 ls [.int (jb (cMay (R (nR2 xb)).2.2 (0 : Int32)))]) rfl ?_
        refine q_ifz_ne S d_Bas_capabilityStoreFault_67 rfl (fun h67 => ?_) (fun h67 => ?_)
        · refine lv_iconst (v := -1) hx hb d_Bas_capabilityStoreFault_93 (by decide) ?_
          exact hw.riz S hr hlk (rfl) d_Bas_capabilityStoreFault_94 () (by simp [stF, aTr, h30, h38, h59, h67]) (trivial) (by simp [stF, aFv, h30, h38, h59, h67])
        · refine lv_aload_n hx hb d_Bas_capabilityStoreFault_70 rfl (lv_at hl 1 rfl) ?_
          refine lv_bipush (v := 6) hx hb d_Bas_capabilityStoreFault_71 (by decide) ?_
          refine q_cr (q_runV (As := [.int (6 : Int32)]) (rest := []) S (w_may l D ti ad u pi ex de xi xb di db fi fb ob reg kq ca va fv R (nR1 xb) (by first | decide | omega) (6 : Int32)) (cw_v hts tb_4_113 k_Cap_may rfl rfl ⟨by decide, by decide⟩) hw (21 + (nR1 xb)) (CW_at (by first | decide | omega)) rfl rfl hl.1 rfl (Nat.le_of_ble_eq_true rfl) d_Bas_capabilityStoreFault_73 ⟨Nat.zero_le _, Nat.zero_le _⟩) ?_
          refine W.eq (g2 := F0 m9 76 ls [.int (jb (cMay (R (nR1 xb)).2.2 (6 : Int32)))]) rfl ?_
          refine q_ifz_ne S d_Bas_capabilityStoreFault_76 rfl (fun h76 => ?_) (fun h76 => ?_)
          · refine lv_iconst (v := -1) hx hb d_Bas_capabilityStoreFault_93 (by decide) ?_
            exact hw.riz S hr hlk (rfl) d_Bas_capabilityStoreFault_94 () (by simp [stF, aTr, h30, h38, h59, h67, h76]) (trivial) (by simp [stF, aFv, h30, h38, h59, h67, h76])
          · refine lv_aload_n hx hb d_Bas_capabilityStoreFault_79 rfl (lv_at hl 2 rfl) ?_
            refine q_get S hw ly_Bas 18 rfl rfl 0 (by decide) tb_2_14 rfl rfl d_Bas_capabilityStoreFault_80 ?_
            refine lv_aload_n hx hb d_Bas_capabilityStoreFault_83 rfl (lv_at hl 3 rfl) ?_
            refine q_get S hw ly_Ins 14 rfl rfl 5 (by decide) tb_1_161 rfl rfl d_Bas_capabilityStoreFault_84 ?_
            refine lv_bipush (v := 22) hx hb d_Bas_capabilityStoreFault_87 (by decide) ?_
            refine q_cg (q_runV (As := [.int (nI (nR1 xb)), .int (22 : Int32)]) (rest := []) S (c_Sta_capabilityFault l D ti ad u pi ex de xi xb di db fi fb ob reg kq ca va fv R (nR1 xb) (22 : Int32)) (cw_v hts tb_4_156 k_Sta_capabilityFault rfl rfl ⟨by decide, by decide⟩) hw 16 rfl rfl rfl hl.1 rfl (Nat.le_of_ble_eq_true rfl) d_Bas_capabilityStoreFault_89 ⟨Nat.zero_le _, Nat.zero_le _⟩) hw (fun z hD => qD_same hD rfl) (fun z9 H locs hp9 hw => ?_)
            refine W.eq (g2 := F0 m9 92 ls [.int (28 : Int32)]) rfl ?_
            have hw : Lv _ _ _ _ _ (CW ad ti u pi ex de xi xb di db fi fb ob reg kq ca va (32 * nI (nR1 xb) + (22 : Int32)) R) _ _ _ := hw
            exact hw.riz S hr hlk (rfl) d_Bas_capabilityStoreFault_92 () (by simp [stF, aTr, h30, h38, h59, h67, h76]) (trivial) (by simp [stF, aFv, h30, h38, h59, h67, h76])
    · refine lv_aload_n hx hb d_Bas_capabilityStoreFault_41 rfl (lv_at hl 2 rfl) ?_
      refine q_get S hw ly_Bas 18 rfl rfl 0 (by decide) tb_2_14 rfl rfl d_Bas_capabilityStoreFault_42 ?_
      refine lv_aload_n hx hb d_Bas_capabilityStoreFault_45 rfl (lv_at hl 3 rfl) ?_
      refine q_get S hw ly_Ins 14 rfl rfl 5 (by decide) tb_1_161 rfl rfl d_Bas_capabilityStoreFault_46 ?_
      refine lv_bipush (v := 21) hx hb d_Bas_capabilityStoreFault_49 (by decide) ?_
      refine q_cg (q_runV (As := [.int (nI (nR1 xb)), .int (21 : Int32)]) (rest := []) S (c_Sta_capabilityFault l D ti ad u pi ex de xi xb di db fi fb ob reg kq ca va fv R (nR1 xb) (21 : Int32)) (cw_v hts tb_4_156 k_Sta_capabilityFault rfl rfl ⟨by decide, by decide⟩) hw 16 rfl rfl rfl hl.1 rfl (Nat.le_of_ble_eq_true rfl) d_Bas_capabilityStoreFault_51 ⟨Nat.zero_le _, Nat.zero_le _⟩) hw (fun z hD => qD_same hD rfl) (fun z9 H locs hp9 hw => ?_)
      refine W.eq (g2 := F0 m9 54 ls [.int (28 : Int32)]) rfl ?_
      have hw : Lv _ _ _ _ _ (CW ad ti u pi ex de xi xb di db fi fb ob reg kq ca va (32 * nI (nR1 xb) + (21 : Int32)) R) _ _ _ := hw
      exact hw.riz S hr hlk (rfl) d_Bas_capabilityStoreFault_54 () (by simp [stF, aTr, h30, h38]) (trivial) (by simp [stF, aFv, h30, h38])
set_option maxHeartbeats 4000000 in
set_option maxRecDepth 100000 in
theorem c_Bas_storeCapability (l : Launch) (D : va_G) (ti : Nat → ClassId) (ad : Nat → Nat) (u : MT) (pi ex de : Nat) (xi xb di db fi fb : Int32) (ob reg : Nat → Nat) (kq : Int32 × Bool × Bool × Int32 × Int64) (ca va fv : Int32) (R : Nat → Cap) (w g : Nat → Int32) (hM : MIt u w g) (i : Nat) (hi : i + 1 < 4096) (k : Nat) (hk : k < 37) : Cg l y_Bas_storeCapability (wl y_Bas_storeCapability b_Bas_storeCapability 3 none) (rmL 3) D clz (ty4 ti) [.ref (ob 2), .int (nI i), .ref (reg k)] (CW ad ti u pi ex de xi xb di db fi fb ob reg kq ca va fv R) (fun z : MT => none) (fun z => (CW ad ti z pi ex de xi xb (dSq di fi i) db (fSq di fi i) fb ob reg kq ca va fv R)) (fun z => MIt z (scW w i (R k)) (scG g i (R k))) := by
  refine Cg.ofF (plainFor_of_name (by decide)) (Nat.le_of_ble_eq_true rfl) ?_
  intro p9 e9 s9 m9 b9 me9 c9 ls S hr hlk hl hw
  obtain ⟨hx, hb, hml, hown, hts⟩ := id S
  have hl : lv_has ls 3 [(0, .ref (ob 2)), (1, .int (nI i)), (2, .ref (reg k))] := hl
  refine lv_aload_n hx hb d_Bas_storeCapability_0 rfl (lv_at hl 0 rfl) ?_
  refine q_get S hw ly_Bas 18 rfl rfl 0 (by decide) tb_2_14 rfl rfl d_Bas_storeCapability_1 ?_
  refine q_get S hw ly_Sta 16 rfl rfl 3 (by decide) tb_1_219 rfl rfl d_Bas_storeCapability_4 ?_
  refine lv_iload_n hx hb d_Bas_storeCapability_7 rfl (lv_at hl 1 rfl) ?_
  refine lv_aload_n hx hb d_Bas_storeCapability_8 rfl (lv_at hl 2 rfl) ?_
  refine q_get S hw ly_Cap (21 + (k)) (CW_at (by first | decide | omega)) rfl 1 (by decide) tb_1_52 rfl rfl d_Bas_storeCapability_9 ?_
  refine q_cg (q_runV (As := [.int (nI i), .int ((R k).2.1)]) (rest := []) S (p_writeWord l D ti ad u w g hM i (by first | assumption | omega) ((R k).2.1) _) (cw_v hts tb_4_161 k_Mem_writeWord rfl rfl ⟨by decide, by decide⟩) hw 0 rfl rfl rfl hl.1 rfl (Nat.le_of_ble_eq_true rfl) d_Bas_storeCapability_12 ⟨Nat.zero_le _, Nat.zero_le _⟩) hw (fun z hD => qD_same hD rfl) (fun u31 H locs hM32 hw => ?_)
  refine W.eq (g2 := F0 m9 15 ls []) rfl ?_
  have hw : Lv _ _ _ _ _ (CW ad ti u31 pi ex de xi xb di db fi fb ob reg kq ca va fv R) _ _ _ := hw
  have hM32 : MIt u31 (upd w i ((R k).2.1)) (gOff g i) := hM32
  refine lv_aload_n hx hb d_Bas_storeCapability_15 rfl (lv_at hl 0 rfl) ?_
  refine q_get S hw ly_Bas 18 rfl rfl 0 (by decide) tb_2_14 rfl rfl d_Bas_storeCapability_16 ?_
  refine q_get S hw ly_Sta 16 rfl rfl 3 (by decide) tb_1_219 rfl rfl d_Bas_storeCapability_19 ?_
  refine lv_iload_n hx hb d_Bas_storeCapability_22 rfl (lv_at hl 1 rfl) ?_
  refine lv_iconst (v := 1) hx hb d_Bas_storeCapability_23 (by decide) ?_
  refine lv_iadd hx hb d_Bas_storeCapability_24 ?_
  refine q_topi (z := nI (i + 1)) (nI_add i 1) ?_
  refine lv_aload_n hx hb d_Bas_storeCapability_25 rfl (lv_at hl 2 rfl) ?_
  refine q_cr (q_runV (As := []) (rest := [.int (nI (i + 1)), .ref (ad 0)]) S (w_toldMeta l D ti ad u31 pi ex de xi xb di db fi fb ob reg kq ca va fv R (k) (by first | decide | omega)) (cw_v hts tb_4_162 k_Cap_toldMeta rfl rfl ⟨by decide, by decide⟩) hw (21 + (k)) (CW_at (by first | decide | omega)) rfl rfl hl.1 rfl (Nat.le_of_ble_eq_true rfl) d_Bas_storeCapability_26 ⟨Nat.zero_le _, Nat.zero_le _⟩) ?_
  refine W.eq (g2 := F0 m9 29 ls [.int (cTold (R k).2.2), .int (nI (i + 1)), .ref (ad 0)]) rfl ?_
  refine q_cg (q_runV (As := [.int (nI (i + 1)), .int (cTold (R k).2.2)]) (rest := []) S (p_writeWord l D ti ad u31 (upd w i ((R k).2.1)) (gOff g i) hM32 (i + 1) (by first | assumption | omega) (cTold (R k).2.2) _) (cw_v hts tb_4_161 k_Mem_writeWord rfl rfl ⟨by decide, by decide⟩) hw 0 rfl rfl rfl hl.1 rfl (Nat.le_of_ble_eq_true rfl) d_Bas_storeCapability_29 ⟨Nat.zero_le _, Nat.zero_le _⟩) hw (fun z hD => qD_same hD rfl) (fun u33 H locs hM34 hw => ?_)
  refine W.eq (g2 := F0 m9 32 ls []) rfl ?_
  have hw : Lv _ _ _ _ _ (CW ad ti u33 pi ex de xi xb di db fi fb ob reg kq ca va fv R) _ _ _ := hw
  have hM34 : MIt u33 (upd (upd w i ((R k).2.1)) (i + 1) (cTold (R k).2.2)) (gOff (gOff g i) (i + 1)) := hM34
  refine lv_aload_n hx hb d_Bas_storeCapability_32 rfl (lv_at hl 2 rfl) ?_
  refine q_get S hw ly_Cap (21 + (k)) (CW_at (by first | decide | omega)) rfl 0 (by decide) tb_1_49 rfl rfl d_Bas_storeCapability_33 ?_
  refine q_ifz_eq S d_Bas_storeCapability_36 rfl (fun h36 => ?_) (fun h36 => ?_)
  · refine lv_aload_n hx hb d_Bas_storeCapability_50 rfl (lv_at hl 0 rfl) ?_
    refine q_get S hw ly_Bas 18 rfl rfl 0 (by decide) tb_2_14 rfl rfl d_Bas_storeCapability_51 ?_
    refine q_get S hw ly_Sta 16 rfl rfl 4 (by decide) tb_1_222 rfl rfl d_Bas_storeCapability_54 ?_
    refine lv_iload_n hx hb d_Bas_storeCapability_57 rfl (lv_at hl 1 rfl) ?_
    refine q_cg (q_runV (As := [.int (nI i)]) (rest := []) S (w_squash l D ti ad u33 pi ex de xi xb di db fi fb ob reg kq ca va fv R i) (cw_v hts tb_4_167 k_Pip_squash rfl rfl ⟨by decide, by decide⟩) hw 13 rfl rfl rfl hl.1 rfl (Nat.le_of_ble_eq_true rfl) d_Bas_storeCapability_58 ⟨Nat.zero_le _, Nat.zero_le _⟩) hw (fun z hD => qD_same hD rfl) (fun z9 H locs hp9 hw => ?_)
    refine W.eq (g2 := F0 m9 61 ls []) rfl ?_
    have hw : Lv _ _ _ _ _ (CW ad ti u33 pi ex de xi xb (pSq di fi i di) db (pSq di fi i fi) fb ob reg kq ca va fv R) _ _ _ := hw
    refine lv_aload_n hx hb d_Bas_storeCapability_61 rfl (lv_at hl 0 rfl) ?_
    refine q_get S hw ly_Bas 18 rfl rfl 0 (by decide) tb_2_14 rfl rfl d_Bas_storeCapability_62 ?_
    refine q_get S hw ly_Sta 16 rfl rfl 4 (by decide) tb_1_222 rfl rfl d_Bas_storeCapability_65 ?_
    refine lv_iload_n hx hb d_Bas_storeCapability_68 rfl (lv_at hl 1 rfl) ?_
    refine lv_iconst (v := 1) hx hb d_Bas_storeCapability_69 (by decide) ?_
    refine lv_iadd hx hb d_Bas_storeCapability_70 ?_
    refine q_topi (z := nI (i + 1)) (nI_add i 1) ?_
    refine q_cg (q_runV (As := [.int (nI (i + 1))]) (rest := []) S (w_squash l D ti ad u33 pi ex de xi xb (pSq di fi i di) db (pSq di fi i fi) fb ob reg kq ca va fv R (i + 1)) (cw_v hts tb_4_167 k_Pip_squash rfl rfl ⟨by decide, by decide⟩) hw 13 rfl rfl rfl hl.1 rfl (Nat.le_of_ble_eq_true rfl) d_Bas_storeCapability_71 ⟨Nat.zero_le _, Nat.zero_le _⟩) hw (fun z hD => qD_same hD rfl) (fun z9 H locs hp9 hw => ?_)
    refine W.eq (g2 := F0 m9 74 ls []) rfl ?_
    have hw : Lv _ _ _ _ _ (CW ad ti u33 pi ex de xi xb (pSq (pSq di fi i di) (pSq di fi i fi) (i + 1) (pSq di fi i di)) db (pSq (pSq di fi i di) (pSq di fi i fi) (i + 1) (pSq di fi i fi)) fb ob reg kq ca va fv R) _ _ _ := hw
    exact hw.rv S hr hlk d_Bas_storeCapability_74 u33 (rfl) (by unfold scW scG; rw [if_pos h36]; exact hM34) (rfl)
  · refine lv_aload_n hx hb d_Bas_storeCapability_39 rfl (lv_at hl 0 rfl) ?_
    refine q_get S hw ly_Bas 18 rfl rfl 0 (by decide) tb_2_14 rfl rfl d_Bas_storeCapability_40 ?_
    refine q_get S hw ly_Sta 16 rfl rfl 3 (by decide) tb_1_219 rfl rfl d_Bas_storeCapability_43 ?_
    refine lv_iload_n hx hb d_Bas_storeCapability_46 rfl (lv_at hl 1 rfl) ?_
    refine q_cg (q_runV (As := [.int (nI i)]) (rest := []) S (p_writeTag l D ti ad u33 (upd (upd w i ((R k).2.1)) (i + 1) (cTold (R k).2.2)) (gOff (gOff g i) (i + 1)) hM34 i (by first | assumption | omega) _) (cw_v hts tb_4_163 k_Mem_writeTag rfl rfl ⟨by decide, by decide⟩) hw 0 rfl rfl rfl hl.1 rfl (Nat.le_of_ble_eq_true rfl) d_Bas_storeCapability_47 ⟨Nat.zero_le _, Nat.zero_le _⟩) hw (fun z hD => qD_same hD rfl) (fun u35 H locs hM36 hw => ?_)
    refine W.eq (g2 := F0 m9 50 ls []) rfl ?_
    have hw : Lv _ _ _ _ _ (CW ad ti u35 pi ex de xi xb di db fi fb ob reg kq ca va fv R) _ _ _ := hw
    have hM36 : MIt u35 (upd (upd w i ((R k).2.1)) (i + 1) (cTold (R k).2.2)) (gOn (gOff (gOff g i) (i + 1)) i) := hM36
    refine lv_aload_n hx hb d_Bas_storeCapability_50 rfl (lv_at hl 0 rfl) ?_
    refine q_get S hw ly_Bas 18 rfl rfl 0 (by decide) tb_2_14 rfl rfl d_Bas_storeCapability_51 ?_
    refine q_get S hw ly_Sta 16 rfl rfl 4 (by decide) tb_1_222 rfl rfl d_Bas_storeCapability_54 ?_
    refine lv_iload_n hx hb d_Bas_storeCapability_57 rfl (lv_at hl 1 rfl) ?_
    refine q_cg (q_runV (As := [.int (nI i)]) (rest := []) S (w_squash l D ti ad u35 pi ex de xi xb di db fi fb ob reg kq ca va fv R i) (cw_v hts tb_4_167 k_Pip_squash rfl rfl ⟨by decide, by decide⟩) hw 13 rfl rfl rfl hl.1 rfl (Nat.le_of_ble_eq_true rfl) d_Bas_storeCapability_58 ⟨Nat.zero_le _, Nat.zero_le _⟩) hw (fun z hD => qD_same hD rfl) (fun z9 H locs hp9 hw => ?_)
    refine W.eq (g2 := F0 m9 61 ls []) rfl ?_
    have hw : Lv _ _ _ _ _ (CW ad ti u35 pi ex de xi xb (pSq di fi i di) db (pSq di fi i fi) fb ob reg kq ca va fv R) _ _ _ := hw
    refine lv_aload_n hx hb d_Bas_storeCapability_61 rfl (lv_at hl 0 rfl) ?_
    refine q_get S hw ly_Bas 18 rfl rfl 0 (by decide) tb_2_14 rfl rfl d_Bas_storeCapability_62 ?_
    refine q_get S hw ly_Sta 16 rfl rfl 4 (by decide) tb_1_222 rfl rfl d_Bas_storeCapability_65 ?_
    refine lv_iload_n hx hb d_Bas_storeCapability_68 rfl (lv_at hl 1 rfl) ?_
    refine lv_iconst (v := 1) hx hb d_Bas_storeCapability_69 (by decide) ?_
    refine lv_iadd hx hb d_Bas_storeCapability_70 ?_
    refine q_topi (z := nI (i + 1)) (nI_add i 1) ?_
    refine q_cg (q_runV (As := [.int (nI (i + 1))]) (rest := []) S (w_squash l D ti ad u35 pi ex de xi xb (pSq di fi i di) db (pSq di fi i fi) fb ob reg kq ca va fv R (i + 1)) (cw_v hts tb_4_167 k_Pip_squash rfl rfl ⟨by decide, by decide⟩) hw 13 rfl rfl rfl hl.1 rfl (Nat.le_of_ble_eq_true rfl) d_Bas_storeCapability_71 ⟨Nat.zero_le _, Nat.zero_le _⟩) hw (fun z hD => qD_same hD rfl) (fun z9 H locs hp9 hw => ?_)
    refine W.eq (g2 := F0 m9 74 ls []) rfl ?_
    have hw : Lv _ _ _ _ _ (CW ad ti u35 pi ex de xi xb (pSq (pSq di fi i di) (pSq di fi i fi) (i + 1) (pSq di fi i di)) db (pSq (pSq di fi i di) (pSq di fi i fi) (i + 1) (pSq di fi i fi)) fb ob reg kq ca va fv R) _ _ _ := hw
    exact hw.rv S hr hlk d_Bas_storeCapability_74 u35 (rfl) (by unfold scW scG; rw [if_neg (by rw [h36]; decide)]; exact hM36) (rfl)
set_option maxHeartbeats 4000000 in
set_option maxRecDepth 100000 in
theorem c_Bas_storeNumber (l : Launch) (D : va_G) (ti : Nat → ClassId) (ad : Nat → Nat) (u : MT) (pi ex de : Nat) (xi xb di db fi fb : Int32) (ob reg : Nat → Nat) (kq : Int32 × Bool × Bool × Int32 × Int64) (ca va fv : Int32) (R : Nat → Cap) (w g : Nat → Int32) (hM : MIt u w g) (X : Nat) (hX : X < 16384) (n v : Int32) : Cg l y_Bas_storeNumber (wl y_Bas_storeNumber b_Bas_storeNumber 7 none) (rmL 3) D clz (ty4 ti) [.ref (ob 2), .int (nI X), .int n, .int v] (CW ad ti u pi ex de xi xb di db fi fb ob reg kq ca va fv R) (fun z : MT => none) (fun z => (CW ad ti z pi ex de xi xb (pSq di fi (X / 4) di) db (pSq di fi (X / 4) fi) fb ob reg kq ca va fv R)) (fun z => MIt z (snW w X n v) (gOff g (X / 4))) := by
  refine Cg.ofF (plainFor_of_name (by decide)) (Nat.le_of_ble_eq_true rfl) ?_
  intro p9 e9 s9 m9 b9 me9 c9 ls S hr hlk hl hw
  obtain ⟨hx, hb, hml, hown, hts⟩ := id S
  have hl : lv_has ls 7 [(0, .ref (ob 2)), (1, .int (nI X)), (2, .int n), (3, .int v)] := hl
  refine lv_iload_n hx hb d_Bas_storeNumber_0 rfl (lv_at hl 1 rfl) ?_
  refine lv_iconst (v := 2) hx hb d_Bas_storeNumber_1 (by decide) ?_
  refine lv_iushr (v := (jus (nI X) (2 : Int32))) hx hb d_Bas_storeNumber_2 rfl ?_
  refine q_topi (z := (nI (X / 4))) (us2 hX) ?_
  refine lv_istore (lv' := [(4, .int (nI (X / 4))), (0, .ref (ob 2)), (1, .int (nI X)), (2, .int n), (3, .int v)]) hx hb d_Bas_storeNumber_3 hl (by decide) rfl (fun ls hl => ?_)
  refine lv_bipush (v := 8) hx hb d_Bas_storeNumber_5 (by decide) ?_
  refine lv_iload_n hx hb d_Bas_storeNumber_7 rfl (lv_at hl 2 rfl) ?_
  refine lv_iconst (v := 3) hx hb d_Bas_storeNumber_8 (by decide) ?_
  refine lv_iand hx hb d_Bas_storeNumber_9 ?_
  refine q_topi (z := (nI (X % 4))) (and3 hX) ?_
  refine lv_imul hx hb d_Bas_storeNumber_10 ?_
  refine q_topi (z := nI (8 * (X % 4))) (pk_mul 8 (X % 4)) ?_
  refine lv_istore (lv' := [(5, .int (nI (8 * (X % 4)))), (4, .int (nI (X / 4))), (0, .ref (ob 2)), (1, .int (nI X)), (2, .int n), (3, .int v)]) hx hb d_Bas_storeNumber_11 hl (by decide) rfl (fun ls hl => ?_)
  refine lv_iload_n hx hb d_Bas_storeNumber_13 rfl (lv_at hl 4 rfl) ?_
  refine lv_iconst (v := 4) hx hb d_Bas_storeNumber_14 (by decide) ?_
  refine q_join (pcJ := 33) (st := [.int (snM n X)]) (lv' := [(5, .int (nI (8 * (X % 4)))), (4, .int (nI (X / 4))), (0, .ref (ob 2)), (1, .int (nI X)), (2, .int n), (3, .int v)]) (nL := 7) (fun ls hl => ?_) (fun J33 => ?_)
  · refine lv_istore (lv' := [(6, .int (snM n X)), (5, .int (nI (8 * (X % 4)))), (4, .int (nI (X / 4))), (0, .ref (ob 2)), (1, .int (nI X)), (2, .int n), (3, .int v)]) hx hb d_Bas_storeNumber_33 hl (by decide) rfl (fun ls hl => ?_)
    refine lv_aload_n hx hb d_Bas_storeNumber_35 rfl (lv_at hl 3 rfl) ?_
    refine q_get S hw ly_Bas 18 rfl rfl 0 (by decide) tb_2_14 rfl rfl d_Bas_storeNumber_36 ?_
    refine q_get S hw ly_Sta 16 rfl rfl 3 (by decide) tb_1_219 rfl rfl d_Bas_storeNumber_39 ?_
    refine lv_iload hx hb d_Bas_storeNumber_42 (lv_at hl 2 rfl) ?_
    refine lv_aload_n hx hb d_Bas_storeNumber_44 rfl (lv_at hl 3 rfl) ?_
    refine q_get S hw ly_Bas 18 rfl rfl 0 (by decide) tb_2_14 rfl rfl d_Bas_storeNumber_45 ?_
    refine q_get S hw ly_Sta 16 rfl rfl 3 (by decide) tb_1_219 rfl rfl d_Bas_storeNumber_48 ?_
    refine lv_iload hx hb d_Bas_storeNumber_51 (lv_at hl 2 rfl) ?_
    refine q_cg (q_runV (As := [.int (nI (X / 4))]) (rest := [.int (nI (X / 4)), .ref (ad 0)]) S (p_readWord l D ti ad u w g hM (X / 4) (by first | assumption | omega) _) (cw_v hts tb_4_118 k_Mem_readWord rfl rfl ⟨by decide, by decide⟩) hw 0 rfl rfl rfl hl.1 rfl (Nat.le_of_ble_eq_true rfl) d_Bas_storeNumber_53 ⟨Nat.zero_le _, Nat.zero_le _⟩) hw (fun z hD => qD_same hD rfl) (fun u37 H locs hM38 hw => ?_)
    refine W.eq (g2 := F0 m9 56 ls [.int (w (X / 4)), .int (nI (X / 4)), .ref (ad 0)]) rfl ?_
    have hw : Lv _ _ _ _ _ (CW ad ti u37 pi ex de xi xb di db fi fb ob reg kq ca va fv R) _ _ _ := hw
    have hM38 : MIt u37 w g := hM38
    refine lv_iload hx hb d_Bas_storeNumber_56 (lv_at hl 0 rfl) ?_
    refine lv_iconst (v := -1) hx hb d_Bas_storeNumber_58 (by decide) ?_
    refine lv_ixor hx hb d_Bas_storeNumber_59 ?_
    refine lv_iand hx hb d_Bas_storeNumber_60 ?_
    refine lv_iload_n hx hb d_Bas_storeNumber_61 rfl (lv_at hl 6 rfl) ?_
    refine lv_iload hx hb d_Bas_storeNumber_62 (lv_at hl 1 rfl) ?_
    refine lv_ishl hx hb d_Bas_storeNumber_64 ?_
    refine lv_iload hx hb d_Bas_storeNumber_65 (lv_at hl 0 rfl) ?_
    refine lv_iand hx hb d_Bas_storeNumber_67 ?_
    refine lv_ior hx hb d_Bas_storeNumber_68 ?_
    refine q_cg (q_runV (As := [.int (nI (X / 4)), .int (((w (X / 4)) &&& ((snM n X) ^^^ (-1 : Int32))) ||| ((v <<< ((nI (8 * (X % 4))) &&& 31)) &&& (snM n X)))]) (rest := []) S (p_writeWord l D ti ad u37 w g hM38 (X / 4) (by first | assumption | omega) (((w (X / 4)) &&& ((snM n X) ^^^ (-1 : Int32))) ||| ((v <<< ((nI (8 * (X % 4))) &&& 31)) &&& (snM n X))) _) (cw_v hts tb_4_161 k_Mem_writeWord rfl rfl ⟨by decide, by decide⟩) hw 0 rfl rfl rfl hl.1 rfl (Nat.le_of_ble_eq_true rfl) d_Bas_storeNumber_69 ⟨Nat.zero_le _, Nat.zero_le _⟩) hw (fun z hD => qD_same hD rfl) (fun u39 H locs hM40 hw => ?_)
    refine W.eq (g2 := F0 m9 72 ls []) rfl ?_
    have hw : Lv _ _ _ _ _ (CW ad ti u39 pi ex de xi xb di db fi fb ob reg kq ca va fv R) _ _ _ := hw
    have hM40 : MIt u39 (upd w (X / 4) (((w (X / 4)) &&& ((snM n X) ^^^ (-1 : Int32))) ||| ((v <<< ((nI (8 * (X % 4))) &&& 31)) &&& (snM n X)))) (gOff g (X / 4)) := hM40
    refine lv_aload_n hx hb d_Bas_storeNumber_72 rfl (lv_at hl 3 rfl) ?_
    refine q_get S hw ly_Bas 18 rfl rfl 0 (by decide) tb_2_14 rfl rfl d_Bas_storeNumber_73 ?_
    refine q_get S hw ly_Sta 16 rfl rfl 4 (by decide) tb_1_222 rfl rfl d_Bas_storeNumber_76 ?_
    refine lv_iload hx hb d_Bas_storeNumber_79 (lv_at hl 2 rfl) ?_
    refine q_cg (q_runV (As := [.int (nI (X / 4))]) (rest := []) S (w_squash l D ti ad u39 pi ex de xi xb di db fi fb ob reg kq ca va fv R (X / 4)) (cw_v hts tb_4_167 k_Pip_squash rfl rfl ⟨by decide, by decide⟩) hw 13 rfl rfl rfl hl.1 rfl (Nat.le_of_ble_eq_true rfl) d_Bas_storeNumber_81 ⟨Nat.zero_le _, Nat.zero_le _⟩) hw (fun z hD => qD_same hD rfl) (fun z9 H locs hp9 hw => ?_)
    refine W.eq (g2 := F0 m9 84 ls []) rfl ?_
    have hw : Lv _ _ _ _ _ (CW ad ti u39 pi ex de xi xb (pSq di fi (X / 4) di) db (pSq di fi (X / 4) fi) fb ob reg kq ca va fv R) _ _ _ := hw
    exact hw.rv S hr hlk d_Bas_storeNumber_84 u39 (rfl) (hM40) (rfl)
  · refine lv_icmp_ne hx hb d_Bas_storeNumber_15 rfl (fun h15 => ?_) (fun h15 => ?_)
    · refine lv_iconst (v := 1) hx hb d_Bas_storeNumber_22 (by decide) ?_
      refine lv_bipush (v := 8) hx hb d_Bas_storeNumber_23 (by decide) ?_
      refine lv_iload_n hx hb d_Bas_storeNumber_25 rfl (lv_at hl 4 rfl) ?_
      refine lv_imul hx hb d_Bas_storeNumber_26 ?_
      refine lv_ishl hx hb d_Bas_storeNumber_27 ?_
      refine lv_iconst (v := 1) hx hb d_Bas_storeNumber_28 (by decide) ?_
      refine lv_isub hx hb d_Bas_storeNumber_29 ?_
      refine lv_iload hx hb d_Bas_storeNumber_30 (lv_at hl 0 rfl) ?_
      refine lv_ishl hx hb d_Bas_storeNumber_32 ?_
      refine q_topi (z := (snM n X)) (by simp only [snM, if_neg h15]) ?_
      exact J33 _ (lv_sub (l' := [(5, .int (nI (8 * (X % 4)))), (4, .int (nI (X / 4))), (0, .ref (ob 2)), (1, .int (nI X)), (2, .int n), (3, .int v)]) hl [0, 1, 2, 3, 4, 5] rfl)
    · refine lv_iconst (v := -1) hx hb d_Bas_storeNumber_18 (by decide) ?_
      refine lv_goto hx hb d_Bas_storeNumber_19 rfl ?_
      refine q_topi (z := (snM n X)) (by simp only [snM, if_pos h15]) ?_
      exact J33 _ (lv_sub (l' := [(5, .int (nI (8 * (X % 4)))), (4, .int (nI (X / 4))), (0, .ref (ob 2)), (1, .int (nI X)), (2, .int n), (3, .int v)]) hl [0, 1, 2, 3, 4, 5] rfl)
set_option maxHeartbeats 4000000 in
set_option maxRecDepth 100000 in
theorem c_Bas_store (l : Launch) (D : va_G) (ti : Nat → ClassId) (ad : Nat → Nat) (u : MT) (pi ex de : Nat) (xi xb di db fi fb : Int32) (ob reg : Nat → Nat) (kq : Int32 × Bool × Bool × Int32 × Int64) (ca va fv : Int32) (R : Nat → Cap) (w g : Nat → Int32) (hM : MIt u w g) (hD : PF di db w) (hF : PF fi fb w) : Cg l y_Bas_store (wl y_Bas_store b_Bas_store 6 (some .int)) (rmL 4) D clz (ty4 ti) [.ref (ob 2), .ref ex] (CW ad ti u pi ex de xi xb di db fi fb ob reg kq ca va fv R) (fun z : MT × Int32 × Int32 => some (.int (xSt fv R w g xb).1)) (fun z => (CW ad ti z.1 pi ex de xi xb z.2.1 db z.2.2 fb ob reg kq ca va ((xSt fv R w g xb).2.1) R)) (fun z => MIt z.1 (xSt fv R w g xb).2.2.1 (xSt fv R w g xb).2.2.2 ∧ PF z.2.1 db (xSt fv R w g xb).2.2.1 ∧ PF z.2.2 fb (xSt fv R w g xb).2.2.1) := by
  refine Cg.ofF (plainFor_of_name (by decide)) (Nat.le_of_ble_eq_true rfl) ?_
  intro p9 e9 s9 m9 b9 me9 c9 ls S hr hlk hl hw
  obtain ⟨hx, hb, hml, hown, hts⟩ := id S
  have hl : lv_has ls 6 [(0, .ref (ob 2)), (1, .ref ex)] := hl
  have hr1 := nR1_lt xb
  have hr2 := nR2_lt xb
  have hrd := nRd_lt xb
  refine lv_aload_n hx hb d_Bas_store_0 rfl (lv_at hl 1 rfl) ?_
  refine q_get S hw ly_Ins 14 rfl rfl 4 (by decide) tb_1_158 rfl rfl d_Bas_store_1 ?_
  refine lv_iconst (v := 3) hx hb d_Bas_store_4 (by decide) ?_
  refine lv_icmp_le hx hb d_Bas_store_5 rfl (fun h5 => ?_) (fun h5 => ?_)
  · refine lv_iconst (v := 1) hx hb d_Bas_store_17 (by decide) ?_
    refine lv_aload_n hx hb d_Bas_store_18 rfl (lv_at hl 1 rfl) ?_
    refine q_get S hw ly_Ins 14 rfl rfl 4 (by decide) tb_1_158 rfl rfl d_Bas_store_19 ?_
    refine lv_ishl hx hb d_Bas_store_22 ?_
    refine q_topi (z := (stN xb)) (rfl) ?_
    refine lv_istore_n (lv' := [(2, .int (stN xb)), (0, .ref (ob 2)), (1, .ref ex)]) hx hb d_Bas_store_23 rfl hl (by decide) rfl (fun ls hl => ?_)
    refine lv_aload_n hx hb d_Bas_store_24 rfl (lv_at hl 1 rfl) ?_
    refine q_get S hw ly_Bas 18 rfl rfl 0 (by decide) tb_2_14 rfl rfl d_Bas_store_25 ?_
    refine q_get S hw ly_Sta 16 rfl rfl 0 (by decide) tb_1_209 rfl rfl d_Bas_store_28 ?_
    refine lv_aload_n hx hb d_Bas_store_31 rfl (lv_at hl 2 rfl) ?_
    refine q_get S hw ly_Ins 14 rfl rfl 5 (by decide) tb_1_161 rfl rfl d_Bas_store_32 ?_
    refine q_aaldN (k := (nR1 xb)) S hw 17 3 rfl rfl (by first | assumption | omega) (by decide) d_Bas_store_35 ?_
    refine q_get S hw ly_Cap (21 + (nR1 xb)) (CW_at (by first | decide | omega)) rfl 1 (by decide) tb_1_52 rfl rfl d_Bas_store_36 ?_
    refine lv_aload_n hx hb d_Bas_store_39 rfl (lv_at hl 2 rfl) ?_
    refine q_get S hw ly_Ins 14 rfl rfl 8 (by decide) tb_1_170 rfl rfl d_Bas_store_40 ?_
    refine lv_iadd hx hb d_Bas_store_43 ?_
    refine q_topi (z := (ldX R xb)) (rfl) ?_
    refine lv_istore_n (lv' := [(3, .int (ldX R xb)), (2, .int (stN xb)), (0, .ref (ob 2)), (1, .ref ex)]) hx hb d_Bas_store_44 rfl hl (by decide) rfl (fun ls hl => ?_)
    refine lv_aload_n hx hb d_Bas_store_45 rfl (lv_at hl 2 rfl) ?_
    refine q_get S hw ly_Bas 18 rfl rfl 0 (by decide) tb_2_14 rfl rfl d_Bas_store_46 ?_
    refine lv_aload_n hx hb d_Bas_store_49 rfl (lv_at hl 3 rfl) ?_
    refine q_get S hw ly_Ins 14 rfl rfl 5 (by decide) tb_1_161 rfl rfl d_Bas_store_50 ?_
    refine lv_iconst (v := 3) hx hb d_Bas_store_53 (by decide) ?_
    refine lv_bipush (v := 19) hx hb d_Bas_store_54 (by decide) ?_
    refine q_cg (q_runV (As := [.int (nI (nR1 xb)), .int (3 : Int32), .int (19 : Int32)]) (rest := []) S (c_Sta_authorityFault l D ti ad u pi ex de xi xb di db fi fb ob reg kq ca va fv R (nR1 xb) (by first | decide | omega) (3 : Int32) (19 : Int32) (by decide)) (cw_v hts tb_4_107 k_Sta_authorityFault rfl rfl ⟨by decide, by decide⟩) hw 16 rfl rfl rfl hl.1 rfl (Nat.le_of_ble_eq_true rfl) d_Bas_store_56 ⟨Nat.zero_le _, Nat.zero_le _⟩) hw (fun z hD => qD_same hD rfl) (fun z9 H locs hp9 hw => ?_)
    refine W.eq (g2 := F0 m9 59 ls [.int (aTr (authF (R (nR1 xb)) (3 : Int32) (19 : Int32)))]) rfl ?_
    have hw : Lv _ _ _ _ _ (CW ad ti u pi ex de xi xb di db fi fb ob reg kq ca va (aFv fv (nR1 xb) (authF (R (nR1 xb)) (3 : Int32) (19 : Int32))) R) _ _ _ := hw
    refine lv_istore (lv' := [(4, .int (aTr (authF (R (nR1 xb)) (3 : Int32) (19 : Int32)))), (3, .int (ldX R xb)), (2, .int (stN xb)), (0, .ref (ob 2)), (1, .ref ex)]) hx hb d_Bas_store_59 hl (by decide) rfl (fun ls hl => ?_)
    refine lv_iload hx hb d_Bas_store_61 (lv_at hl 0 rfl) ?_
    refine lv_iconst (v := -1) hx hb d_Bas_store_63 (by decide) ?_
    refine lv_icmp_ne hx hb d_Bas_store_64 rfl (fun h64 => ?_) (fun h64 => ?_)
    · refine lv_iload hx hb d_Bas_store_80 (lv_at hl 0 rfl) ?_
      refine lv_iconst (v := -1) hx hb d_Bas_store_82 (by decide) ?_
      refine lv_icmp_ne hx hb d_Bas_store_83 rfl (fun _ => ?_) (fun h => absurd h (h64))
      refine lv_iload hx hb d_Bas_store_103 (lv_at hl 0 rfl) ?_
      refine lv_iconst (v := -1) hx hb d_Bas_store_105 (by decide) ?_
      refine lv_icmp_eq hx hb d_Bas_store_106 rfl (fun h => absurd h (h64)) (fun _ => ?_)
      refine lv_iload hx hb d_Bas_store_109 (lv_at hl 0 rfl) ?_
      exact hw.riz S hr hlk (rfl) d_Bas_store_111 (u, di, fi) (by unfold xSt stA; rw [if_pos h5, if_neg h64]) (by unfold xSt stA; rw [if_pos h5, if_neg h64]; exact ⟨hM, hD, hF⟩) (by unfold xSt stA; rw [if_pos h5, if_neg h64])
    · refine lv_iload_n hx hb d_Bas_store_67 rfl (lv_at hl 2 rfl) ?_
      refine lv_bipush (v := 8) hx hb d_Bas_store_68 (by decide) ?_
      refine lv_icmp_ne hx hb d_Bas_store_70 rfl (fun h70 => ?_) (fun h70 => ?_)
      · refine lv_iload hx hb d_Bas_store_80 (lv_at hl 0 rfl) ?_
        refine lv_iconst (v := -1) hx hb d_Bas_store_82 (by decide) ?_
        refine lv_icmp_ne hx hb d_Bas_store_83 rfl (fun h => absurd h (not_not_intro h64)) (fun _ => ?_)
        refine lv_aload_n hx hb d_Bas_store_86 rfl (lv_at hl 3 rfl) ?_
        refine q_get S hw ly_Bas 18 rfl rfl 0 (by decide) tb_2_14 rfl rfl d_Bas_store_87 ?_
        refine lv_aload_n hx hb d_Bas_store_90 rfl (lv_at hl 4 rfl) ?_
        refine q_get S hw ly_Ins 14 rfl rfl 5 (by decide) tb_1_161 rfl rfl d_Bas_store_91 ?_
        refine lv_iload_n hx hb d_Bas_store_94 rfl (lv_at hl 1 rfl) ?_
        refine lv_iload_n hx hb d_Bas_store_95 rfl (lv_at hl 2 rfl) ?_
        refine lv_bipush (v := 6) hx hb d_Bas_store_96 (by decide) ?_
        refine q_cg (q_runV (As := [.int (nI (nR1 xb)), .int (ldX R xb), .int (stN xb), .int (6 : Int32)]) (rest := []) S (c_Sta_placeFault l D ti ad u pi ex de xi xb di db fi fb ob reg kq ca va (aFv fv (nR1 xb) (authF (R (nR1 xb)) (3 : Int32) (19 : Int32))) R (nR1 xb) (by first | decide | omega) (ldX R xb) (stN xb) (6 : Int32)) (cw_v hts tb_4_108 k_Sta_placeFault rfl rfl ⟨by decide, by decide⟩) hw 16 rfl rfl rfl hl.1 rfl (Nat.le_of_ble_eq_true rfl) d_Bas_store_98 ⟨Nat.zero_le _, Nat.zero_le _⟩) hw (fun z hD => qD_same hD rfl) (fun z9 H locs hp9 hw => ?_)
        refine W.eq (g2 := F0 m9 101 ls [.int ((plF (aFv fv (nR1 xb) (authF (R (nR1 xb)) (3 : Int32) (19 : Int32))) (nR1 xb) (R (nR1 xb)) (ldX R xb) (stN xb) (6 : Int32)).1)]) rfl ?_
        have hw : Lv _ _ _ _ _ (CW ad ti u pi ex de xi xb di db fi fb ob reg kq ca va ((plF (aFv fv (nR1 xb) (authF (R (nR1 xb)) (3 : Int32) (19 : Int32))) (nR1 xb) (R (nR1 xb)) (ldX R xb) (stN xb) (6 : Int32)).2) R) _ _ _ := hw
        refine lv_istore (lv' := [(4, .int ((plF (aFv fv (nR1 xb) (authF (R (nR1 xb)) (3 : Int32) (19 : Int32))) (nR1 xb) (R (nR1 xb)) (ldX R xb) (stN xb) (6 : Int32)).1)), (3, .int (ldX R xb)), (2, .int (stN xb)), (0, .ref (ob 2)), (1, .ref ex)]) hx hb d_Bas_store_101 hl (by decide) rfl (fun ls hl => ?_)
        refine lv_iload hx hb d_Bas_store_103 (lv_at hl 0 rfl) ?_
        refine lv_iconst (v := -1) hx hb d_Bas_store_105 (by decide) ?_
        refine lv_icmp_eq hx hb d_Bas_store_106 rfl (fun h106 => ?_) (fun h106 => ?_)
        · obtain ⟨⟨X, hX, eX⟩, ef, e0⟩ := plF_ok (fv := (aFv fv (nR1 xb) (stA R xb))) (k := nR1 xb) (c := R (nR1 xb)) (x := ldX R xb) (n := stN xb) (tm := 6) h106 (by decide) (by decide)
          have hl : lv_has ls 6 [(4, .int ((plF (aFv fv (nR1 xb) (authF (R (nR1 xb)) (3 : Int32) (19 : Int32))) (nR1 xb) (R (nR1 xb)) (ldX R xb) (stN xb) (6 : Int32)).1)), (3, .int (nI X)), (2, .int (stN xb)), (0, .ref (ob 2)), (1, .ref ex)] := q_loc hl (by rw [eX])
          refine lv_aload_n hx hb d_Bas_store_112 rfl (lv_at hl 3 rfl) ?_
          refine q_get S hw ly_Bas 18 rfl rfl 0 (by decide) tb_2_14 rfl rfl d_Bas_store_113 ?_
          refine q_get S hw ly_Sta 16 rfl rfl 0 (by decide) tb_1_209 rfl rfl d_Bas_store_116 ?_
          refine lv_aload_n hx hb d_Bas_store_119 rfl (lv_at hl 4 rfl) ?_
          refine q_get S hw ly_Ins 14 rfl rfl 6 (by decide) tb_1_164 rfl rfl d_Bas_store_120 ?_
          refine q_aaldN (k := (nR2 xb)) S hw 17 3 rfl rfl (by first | assumption | omega) (by decide) d_Bas_store_123 ?_
          refine lv_astore (lv' := [(5, .ref (reg (nR2 xb))), (4, .int ((plF (aFv fv (nR1 xb) (authF (R (nR1 xb)) (3 : Int32) (19 : Int32))) (nR1 xb) (R (nR1 xb)) (ldX R xb) (stN xb) (6 : Int32)).1)), (3, .int (nI X)), (2, .int (stN xb)), (0, .ref (ob 2)), (1, .ref ex)]) hx hb d_Bas_store_124 hl (by decide) rfl (fun ls hl => ?_)
          refine lv_iload_n hx hb d_Bas_store_126 rfl (lv_at hl 3 rfl) ?_
          refine lv_bipush (v := 8) hx hb d_Bas_store_127 (by decide) ?_
          refine lv_icmp_ne hx hb d_Bas_store_129 rfl (fun _ => ?_) (fun h => absurd h (h70))
          refine lv_aload_n hx hb d_Bas_store_144 rfl (lv_at hl 4 rfl) ?_
          refine lv_iload_n hx hb d_Bas_store_145 rfl (lv_at hl 2 rfl) ?_
          refine lv_iload_n hx hb d_Bas_store_146 rfl (lv_at hl 3 rfl) ?_
          refine lv_aload hx hb d_Bas_store_147 (lv_at hl 0 rfl) ?_
          refine q_get S hw ly_Cap (21 + (nR2 xb)) (CW_at (by first | decide | omega)) rfl 1 (by decide) tb_1_52 rfl rfl d_Bas_store_149 ?_
          refine q_cg (q_runV (As := [.int (nI X), .int (stN xb), .int ((R (nR2 xb)).2.1)]) (rest := []) S (c_Bas_storeNumber l D ti ad u pi ex de xi xb di db fi fb ob reg kq ca va ((plF (aFv fv (nR1 xb) (authF (R (nR1 xb)) (3 : Int32) (19 : Int32))) (nR1 xb) (R (nR1 xb)) (ldX R xb) (stN xb) (6 : Int32)).2) R w g hM X (by first | assumption | omega) (stN xb) ((R (nR2 xb)).2.1)) (cw_v hts tb_4_168 k_Bas_storeNumber rfl rfl ⟨by decide, by decide⟩) hw 18 rfl rfl rfl hl.1 rfl (Nat.le_of_ble_eq_true rfl) d_Bas_store_152 ⟨Nat.zero_le _, Nat.zero_le _⟩) hw (fun z hD => CW_D (qD_same hD rfl)) (fun u41 H locs hM42 hw => ?_)
          refine W.eq (g2 := F0 m9 155 ls []) rfl ?_
          have hw : Lv _ _ _ _ _ (CW ad ti u41 pi ex de xi xb (pSq di fi (X / 4) di) db (pSq di fi (X / 4) fi) fb ob reg kq ca va ((plF (aFv fv (nR1 xb) (authF (R (nR1 xb)) (3 : Int32) (19 : Int32))) (nR1 xb) (R (nR1 xb)) (ldX R xb) (stN xb) (6 : Int32)).2) R) _ _ _ := hw
          have hM42 : MIt u41 (snW w (X) (stN xb) ((R (nR2 xb)).2.1)) (gOff g (X / 4)) := hM42
          refine lv_iconst (v := -1) hx hb d_Bas_store_155 (by decide) ?_
          exact hw.riz S hr hlk (rfl) d_Bas_store_156 (u41, (pSq di fi (X / 4) di), (pSq di fi (X / 4) fi)) (by unfold xSt stP1 stA; rw [if_pos h5, if_pos h64, if_neg h70, if_pos h106]) (by unfold xSt stP1 stA; rw [if_pos h5, if_pos h64, if_neg h70, if_pos h106]; rw [eX, nI_clamp (show X < 2 ^ 31 by omega)]; exact ⟨hM42, hD.sq1 upd_off, hF.sq2 upd_off⟩) (by unfold xSt stP1 stA; rw [if_pos h5, if_pos h64, if_neg h70, if_pos h106])
        · refine lv_iload hx hb d_Bas_store_109 (lv_at hl 0 rfl) ?_
          exact hw.riz S hr hlk (rfl) d_Bas_store_111 (u, di, fi) (by unfold xSt stP1 stA; rw [if_pos h5, if_pos h64, if_neg h70, if_neg h106]) (by unfold xSt stP1 stA; rw [if_pos h5, if_pos h64, if_neg h70, if_neg h106]; exact ⟨hM, hD, hF⟩) (by unfold xSt stP1 stA; rw [if_pos h5, if_pos h64, if_neg h70, if_neg h106])
      · refine lv_aload_n hx hb d_Bas_store_73 rfl (lv_at hl 3 rfl) ?_
        refine lv_aload_n hx hb d_Bas_store_74 rfl (lv_at hl 4 rfl) ?_
        refine q_cg (q_runV (As := [.ref ex]) (rest := []) S (c_Bas_capabilityStoreFault l D ti ad u pi ex de xi xb di db fi fb ob reg kq ca va (aFv fv (nR1 xb) (authF (R (nR1 xb)) (3 : Int32) (19 : Int32))) R) (cw_v hts tb_4_152 k_Bas_capabilityStoreFault rfl rfl ⟨by decide, by decide⟩) hw 18 rfl rfl rfl hl.1 rfl (Nat.le_of_ble_eq_true rfl) d_Bas_store_75 ⟨Nat.zero_le _, Nat.zero_le _⟩) hw (fun z hD => qD_same hD rfl) (fun z9 H locs hp9 hw => ?_)
        refine W.eq (g2 := F0 m9 78 ls [.int (aTr (stF R xb))]) rfl ?_
        have hw : Lv _ _ _ _ _ (CW ad ti u pi ex de xi xb di db fi fb ob reg kq ca va (aFv (aFv fv (nR1 xb) (authF (R (nR1 xb)) (3 : Int32) (19 : Int32))) (nR1 xb) (stF R xb)) R) _ _ _ := hw
        refine lv_istore (lv' := [(4, .int (aTr (stF R xb))), (3, .int (ldX R xb)), (2, .int (stN xb)), (0, .ref (ob 2)), (1, .ref ex)]) hx hb d_Bas_store_78 hl (by decide) rfl (fun ls hl => ?_)
        refine lv_iload hx hb d_Bas_store_80 (lv_at hl 0 rfl) ?_
        refine lv_iconst (v := -1) hx hb d_Bas_store_82 (by decide) ?_
        refine lv_icmp_ne hx hb d_Bas_store_83 rfl (fun h83 => ?_) (fun h83 => ?_)
        · refine lv_iload hx hb d_Bas_store_103 (lv_at hl 0 rfl) ?_
          refine lv_iconst (v := -1) hx hb d_Bas_store_105 (by decide) ?_
          refine lv_icmp_eq hx hb d_Bas_store_106 rfl (fun h => absurd h (h83)) (fun _ => ?_)
          refine lv_iload hx hb d_Bas_store_109 (lv_at hl 0 rfl) ?_
          exact hw.riz S hr hlk (rfl) d_Bas_store_111 (u, di, fi) (by unfold xSt stA; rw [if_pos h5, if_pos h64, if_pos h70, if_neg h83]) (by unfold xSt stA; rw [if_pos h5, if_pos h64, if_pos h70, if_neg h83]; exact ⟨hM, hD, hF⟩) (by unfold xSt stA; rw [if_pos h5, if_pos h64, if_pos h70, if_neg h83])
        · refine lv_aload_n hx hb d_Bas_store_86 rfl (lv_at hl 3 rfl) ?_
          refine q_get S hw ly_Bas 18 rfl rfl 0 (by decide) tb_2_14 rfl rfl d_Bas_store_87 ?_
          refine lv_aload_n hx hb d_Bas_store_90 rfl (lv_at hl 4 rfl) ?_
          refine q_get S hw ly_Ins 14 rfl rfl 5 (by decide) tb_1_161 rfl rfl d_Bas_store_91 ?_
          refine lv_iload_n hx hb d_Bas_store_94 rfl (lv_at hl 1 rfl) ?_
          refine lv_iload_n hx hb d_Bas_store_95 rfl (lv_at hl 2 rfl) ?_
          refine lv_bipush (v := 6) hx hb d_Bas_store_96 (by decide) ?_
          refine q_cg (q_runV (As := [.int (nI (nR1 xb)), .int (ldX R xb), .int (stN xb), .int (6 : Int32)]) (rest := []) S (c_Sta_placeFault l D ti ad u pi ex de xi xb di db fi fb ob reg kq ca va (aFv (aFv fv (nR1 xb) (authF (R (nR1 xb)) (3 : Int32) (19 : Int32))) (nR1 xb) (stF R xb)) R (nR1 xb) (by first | decide | omega) (ldX R xb) (stN xb) (6 : Int32)) (cw_v hts tb_4_108 k_Sta_placeFault rfl rfl ⟨by decide, by decide⟩) hw 16 rfl rfl rfl hl.1 rfl (Nat.le_of_ble_eq_true rfl) d_Bas_store_98 ⟨Nat.zero_le _, Nat.zero_le _⟩) hw (fun z hD => qD_same hD rfl) (fun z9 H locs hp9 hw => ?_)
          refine W.eq (g2 := F0 m9 101 ls [.int ((plF (aFv (aFv fv (nR1 xb) (authF (R (nR1 xb)) (3 : Int32) (19 : Int32))) (nR1 xb) (stF R xb)) (nR1 xb) (R (nR1 xb)) (ldX R xb) (stN xb) (6 : Int32)).1)]) rfl ?_
          have hw : Lv _ _ _ _ _ (CW ad ti u pi ex de xi xb di db fi fb ob reg kq ca va ((plF (aFv (aFv fv (nR1 xb) (authF (R (nR1 xb)) (3 : Int32) (19 : Int32))) (nR1 xb) (stF R xb)) (nR1 xb) (R (nR1 xb)) (ldX R xb) (stN xb) (6 : Int32)).2) R) _ _ _ := hw
          refine lv_istore (lv' := [(4, .int ((plF (aFv (aFv fv (nR1 xb) (authF (R (nR1 xb)) (3 : Int32) (19 : Int32))) (nR1 xb) (stF R xb)) (nR1 xb) (R (nR1 xb)) (ldX R xb) (stN xb) (6 : Int32)).1)), (3, .int (ldX R xb)), (2, .int (stN xb)), (0, .ref (ob 2)), (1, .ref ex)]) hx hb d_Bas_store_101 hl (by decide) rfl (fun ls hl => ?_)
          refine lv_iload hx hb d_Bas_store_103 (lv_at hl 0 rfl) ?_
          refine lv_iconst (v := -1) hx hb d_Bas_store_105 (by decide) ?_
          refine lv_icmp_eq hx hb d_Bas_store_106 rfl (fun h106 => ?_) (fun h106 => ?_)
          · obtain ⟨⟨X, hX, eX⟩, ef, e0⟩ := plF_ok (fv := (aFv (aFv fv (nR1 xb) (stA R xb)) (nR1 xb) (stF R xb))) (k := nR1 xb) (c := R (nR1 xb)) (x := ldX R xb) (n := stN xb) (tm := 6) h106 (by decide) (by decide)
            have hl : lv_has ls 6 [(4, .int ((plF (aFv (aFv fv (nR1 xb) (authF (R (nR1 xb)) (3 : Int32) (19 : Int32))) (nR1 xb) (stF R xb)) (nR1 xb) (R (nR1 xb)) (ldX R xb) (stN xb) (6 : Int32)).1)), (3, .int (nI X)), (2, .int (stN xb)), (0, .ref (ob 2)), (1, .ref ex)] := q_loc hl (by rw [eX])
            have hX8 := al8 hX (by rw [← eX]; have e8 : stN xb = 8 := h70; rw [e8] at e0; exact e0)
            refine lv_aload_n hx hb d_Bas_store_112 rfl (lv_at hl 3 rfl) ?_
            refine q_get S hw ly_Bas 18 rfl rfl 0 (by decide) tb_2_14 rfl rfl d_Bas_store_113 ?_
            refine q_get S hw ly_Sta 16 rfl rfl 0 (by decide) tb_1_209 rfl rfl d_Bas_store_116 ?_
            refine lv_aload_n hx hb d_Bas_store_119 rfl (lv_at hl 4 rfl) ?_
            refine q_get S hw ly_Ins 14 rfl rfl 6 (by decide) tb_1_164 rfl rfl d_Bas_store_120 ?_
            refine q_aaldN (k := (nR2 xb)) S hw 17 3 rfl rfl (by first | assumption | omega) (by decide) d_Bas_store_123 ?_
            refine lv_astore (lv' := [(5, .ref (reg (nR2 xb))), (4, .int ((plF (aFv (aFv fv (nR1 xb) (authF (R (nR1 xb)) (3 : Int32) (19 : Int32))) (nR1 xb) (stF R xb)) (nR1 xb) (R (nR1 xb)) (ldX R xb) (stN xb) (6 : Int32)).1)), (3, .int (nI X)), (2, .int (stN xb)), (0, .ref (ob 2)), (1, .ref ex)]) hx hb d_Bas_store_124 hl (by decide) rfl (fun ls hl => ?_)
            refine lv_iload_n hx hb d_Bas_store_126 rfl (lv_at hl 3 rfl) ?_
            refine lv_bipush (v := 8) hx hb d_Bas_store_127 (by decide) ?_
            refine lv_icmp_ne hx hb d_Bas_store_129 rfl (fun h => absurd h (not_not_intro h70)) (fun _ => ?_)
            refine lv_aload_n hx hb d_Bas_store_132 rfl (lv_at hl 4 rfl) ?_
            refine lv_iload_n hx hb d_Bas_store_133 rfl (lv_at hl 2 rfl) ?_
            refine lv_iconst (v := 2) hx hb d_Bas_store_134 (by decide) ?_
            refine lv_iushr (v := (jus (nI X) (2 : Int32))) hx hb d_Bas_store_135 rfl ?_
            refine q_topi (z := (nI (X / 4))) (us2 hX) ?_
            refine lv_aload hx hb d_Bas_store_136 (lv_at hl 0 rfl) ?_
            refine q_cg (q_runV (As := [.int (nI (X / 4)), .ref (reg (nR2 xb))]) (rest := []) S (c_Bas_storeCapability l D ti ad u pi ex de xi xb di db fi fb ob reg kq ca va ((plF (aFv (aFv fv (nR1 xb) (authF (R (nR1 xb)) (3 : Int32) (19 : Int32))) (nR1 xb) (stF R xb)) (nR1 xb) (R (nR1 xb)) (ldX R xb) (stN xb) (6 : Int32)).2) R w g hM (X / 4) (by omega) (nR2 xb) (by omega)) (cw_v hts tb_4_157 k_Bas_storeCapability rfl rfl ⟨by decide, by decide⟩) hw 18 rfl rfl rfl hl.1 rfl (Nat.le_of_ble_eq_true rfl) d_Bas_store_138 ⟨Nat.zero_le _, Nat.zero_le _⟩) hw (fun z hD => CW_D (qD_same hD rfl)) (fun u43 H locs hM44 hw => ?_)
            refine W.eq (g2 := F0 m9 141 ls []) rfl ?_
            have hw : Lv _ _ _ _ _ (CW ad ti u43 pi ex de xi xb (dSq di fi (X / 4)) db (fSq di fi (X / 4)) fb ob reg kq ca va ((plF (aFv (aFv fv (nR1 xb) (authF (R (nR1 xb)) (3 : Int32) (19 : Int32))) (nR1 xb) (stF R xb)) (nR1 xb) (R (nR1 xb)) (ldX R xb) (stN xb) (6 : Int32)).2) R) _ _ _ := hw
            have hM44 : MIt u43 (scW w (X / 4) (R (nR2 xb))) (scG g (X / 4) (R (nR2 xb))) := hM44
            refine lv_goto hx hb d_Bas_store_141 rfl ?_
            refine lv_iconst (v := -1) hx hb d_Bas_store_155 (by decide) ?_
            exact hw.riz S hr hlk (rfl) d_Bas_store_156 (u43, (dSq di fi (X / 4)), (fSq di fi (X / 4))) (by unfold xSt stP2 stA; rw [if_pos h5, if_pos h64, if_pos h70, if_pos h83, if_pos h106]) (by unfold xSt stP2 stA; rw [if_pos h5, if_pos h64, if_pos h70, if_pos h83, if_pos h106]; rw [eX, nI_clamp (show X < 2 ^ 31 by omega)]; exact ⟨hM44, PF.sc hD hF _ _⟩) (by unfold xSt stP2 stA; rw [if_pos h5, if_pos h64, if_pos h70, if_pos h83, if_pos h106])
          · refine lv_iload hx hb d_Bas_store_109 (lv_at hl 0 rfl) ?_
            exact hw.riz S hr hlk (rfl) d_Bas_store_111 (u, di, fi) (by unfold xSt stP2 stA; rw [if_pos h5, if_pos h64, if_pos h70, if_pos h83, if_neg h106]) (by unfold xSt stP2 stA; rw [if_pos h5, if_pos h64, if_pos h70, if_pos h83, if_neg h106]; exact ⟨hM, hD, hF⟩) (by unfold xSt stP2 stA; rw [if_pos h5, if_pos h64, if_pos h70, if_pos h83, if_neg h106])
  · refine lv_aload_n hx hb d_Bas_store_8 rfl (lv_at hl 0 rfl) ?_
    refine q_get S hw ly_Bas 18 rfl rfl 0 (by decide) tb_2_14 rfl rfl d_Bas_store_9 ?_
    refine lv_aload_n hx hb d_Bas_store_12 rfl (lv_at hl 1 rfl) ?_
    refine q_cg (q_runV (As := [.ref ex]) (rest := []) S (c_Sta_illegal l D ti ad u pi ex de xi xb di db fi fb ob reg kq ca va fv R) (cw_v hts tb_4_106 k_Sta_illegal rfl rfl ⟨by decide, by decide⟩) hw 16 rfl rfl rfl hl.1 rfl (Nat.le_of_ble_eq_true rfl) d_Bas_store_13 ⟨Nat.zero_le _, Nat.zero_le _⟩) hw (fun z hD => qD_same hD rfl) (fun z9 H locs hp9 hw => ?_)
    refine W.eq (g2 := F0 m9 16 ls [.int (2 : Int32)]) rfl ?_
    have hw : Lv _ _ _ _ _ (CW ad ti u pi ex de xi xb di db fi fb ob reg kq ca va xb R) _ _ _ := hw
    exact hw.riz S hr hlk (rfl) d_Bas_store_16 (u, di, fi) (by unfold xSt; rw [if_neg h5]) (by unfold xSt; rw [if_neg h5]; exact ⟨hM, hD, hF⟩) (by unfold xSt; rw [if_neg h5])
