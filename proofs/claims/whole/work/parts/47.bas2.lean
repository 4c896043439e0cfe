/-! BaseUnit, second half: loads, stores, the system's instructions. -/
def CT5 (ad : Nat → Nat) (ti : Nat → ClassId) (pi : Nat) (ob reg : Nat → Nat) (kq : Int32 × Bool × Bool × Int32 × Int64) (ca va fv : Int32) : va_W :=
  [(ob 0, .inr (7, [.ref (ob 1), .ref (reg 32), .ref (reg 37), .ref (ad 0), .ref pi, .int ca, .int va, .int fv])), (ob 1, .inl (ti 3, 37, .inr (.inr (.inr (.inr (fun j => some (reg j))))))), (ob 2, .inr (8, [.ref (ob 0), .ref (reg 38)])), (ob 3, .inr (9, [.ref (ob 0), .ref (ob 4)])), (ob 4, pkT kq)]
theorem w_squash (l : Launch) (D : va_G) (ti : Nat → ClassId) (ad : Nat → Nat) (u : MT) (pi ex de : Nat) (xi xb di db fi fb : Int32) (ob reg : Nat → Nat) (kq : Int32 × Bool × Bool × Int32 × Int64) (ca va fv : Int32) (R : Nat → Cap) (k : Nat) : Cg l y_Pip_squash (wl y_Pip_squash b_Pip_squash 2 none) (rmL 0) D clz (ty4 ti) [.ref pi, .int (nI k)] (CW ad ti u pi ex de xi xb di db fi fb ob reg kq ca va fv R) (fun _ : Unit => none) (fun _ => CW ad ti u pi ex de xi xb (pSq di fi k di) db (pSq di fi k fi) fb ob reg kq ca va fv R) (fun _ => True) :=
  (c_Pip_squash l D ti ad u pi ex de xi xb di db fi fb (fun _ => 0) (fun _ => 0) k).front (fun _ => rfl) (CT5 ad ti pi ob reg kq ca va fv ++ cpool reg R)
theorem us2 {X : Nat} (h : X < 16384) : jus (nI X) 2 = nI (X / 4) := by rw [iN_us (nI X) 2 2 (by decide), iN_tn (by omega)]
theorem and3 {X : Nat} (h : X < 16384) : nI X &&& 3 = nI (X % 4) := pk_andN (by omega) 2 rfl
theorem plF_ok {fv : Int32} {k : Nat} {c : Cap} {x n tm : Int32} (h : (plF fv k c x n tm).1 = -1) (h1 : tm ≠ -1) (h2 : tm + 1 ≠ -1) : (∃ X, X < 16384 ∧ x = nI X) ∧ (plF fv k c x n tm).2 = fv ∧ (x &&& (n - 1)) = 0 := by
  unfold plF at h ⊢
  split at h
  · exact absurd h (show ¬ (28 : Int32) = -1 by decide)
  · rename_i a1
    split at h
    · rename_i a2
      split at h
      · exact absurd h h2
      · rename_i a3
        split at h
        · exact absurd h h2
        · rename_i a4
          obtain ⟨j, hj, ej⟩ := nI_of a3
          refine ⟨⟨j, ?_, ej⟩, by rw [if_neg a1, if_pos a2, if_neg a3, if_neg a4], a2⟩
          rw [ej] at a4
          exact lt_nge2 (c := 16384) hj a4
    · exact absurd h h1
def ldV (f x : Int32) : Int32 := if f = 0 then x.toInt8.toInt32 else if f = 1 then x.toInt16.toInt32 else if f = 4 then x &&& 255 else if f = 5 then x &&& 65535 else x
def ldW (w : Nat → Int32) (X : Nat) : Int32 := jus (w (X / 4)) (nI (8 * (X % 4)))
def lcT (R : Nat → Cap) (x : Int32) (g : Nat → Int32) (i : Nat) : Bool := if cMay (R (nR1 x)).2.2 4 = false then false else gTag g i
def lcR (R : Nat → Cap) (x : Int32) (w g : Nat → Int32) (i : Nat) : Nat → Cap := aR (va_up R 37 (lcT R x g i, w i, w (i + 1) ^^^ 1000194)) (nRd x)
def ldX (R : Nat → Cap) (x : Int32) : Int32 := (R (nR1 x)).2.1 + iIm x
def ldN (x : Int32) : Int32 := (1 : Int32) <<< ((nI (nFn x) &&& 3) &&& 31)
def ldA (R : Nat → Cap) (x : Int32) : Int32 := authF (R (nR1 x)) 2 18
def ldP (fv : Int32) (R : Nat → Cap) (x : Int32) : Int32 × Int32 := plF (aFv fv (nR1 x) (ldA R x)) (nR1 x) (R (nR1 x)) (ldX R x) (ldN x) 4
def xLd (fv : Int32) (R : Nat → Cap) (w g : Nat → Int32) (x : Int32) : OC :=
  if nI (nFn x) ≤ 5 then (if aTr (ldA R x) = -1 then (if (ldP fv R x).1 = -1 then (if ldN x = 8 then (-1, (ldP fv R x).2, lcR R x w g ((ldX R x).toNatClampNeg / 4)) else (-1, (ldP fv R x).2, nR R (nRd x) (ldV (nI (nFn x)) (ldW w (ldX R x).toNatClampNeg)))) else ((ldP fv R x).1, (ldP fv R x).2, R)) else (aTr (ldA R x), aFv fv (nR1 x) (ldA R x), R)) else (2, x, R)
def n8 : ∀ f, f < 8 → nI f ≤ 5 → (1 : Int32) <<< ((nI f &&& 3) &&& 31) = 8 → f = 3 := by decide +kernel
theorem al8 {X : Nat} (h : X < 16384) (e : nI X &&& (8 - 1) = 0) : X % 8 = 0 := by
  have h1 : nI X &&& (8 - 1) = nI (X % 2 ^ 3) := pk_andN (by omega) 3 rfl
  rw [h1] at e
  exact nI_inj (a := X % 2 ^ 3) (b := 0) (by omega) (by decide) e
set_option maxHeartbeats 4000000 in
set_option maxRecDepth 100000 in
theorem c_Bas_changeCsr (l : Launch) (D : va_G) (ti : Nat → ClassId) (ad : Nat → Nat) (u : MT) (pi ex de : Nat) (xi xb di db fi fb : Int32) (ob reg : Nat → Nat) (kq : Int32 × Bool × Bool × Int32 × Int64) (ca va fv : Int32) (R : Nat → Cap) (cb : Bool) : Cg l y_Bas_changeCsr (wl y_Bas_changeCsr b_Bas_changeCsr 6 (some .int)) (rmL 2) D clz (ty4 ti) [.ref (ob 2), .ref ex, .int (jb cb)] (CW ad ti u pi ex de xi xb di db fi fb ob reg kq ca va fv R) (fun _ : Unit => some (.int (-1))) (fun _ => (CW ad ti u pi ex de xi xb di db fi fb ob reg kq (if cb = false then ca else csNx (nI (nFn xb)) (if cb = false then va else ca) (csOp R xb)) (if cb = false then csNx (nI (nFn xb)) (if cb = false then va else ca) (csOp R xb) else va) fv (nR R (nRd xb) (if cb = false then va else ca)))) (fun _ => True) := by
  refine Cg.ofF (plainFor_of_name (by decide)) (Nat.le_of_ble_eq_true rfl) ?_
  intro p9 e9 s9 m9 b9 me9 c9 ls S hr hlk hl hw
  obtain ⟨hx, hb, hml, hown, hts⟩ := id S
  have hl : lv_has ls 6 [(0, .ref (ob 2)), (1, .ref ex), (2, .int (jb cb))] := hl
  have hr1 := nR1_lt xb
  have hr2 := nR2_lt xb
  have hrd := nRd_lt xb
  refine lv_iload_n hx hb d_Bas_changeCsr_0 rfl (lv_at hl 2 rfl) ?_
  refine q_join (pcJ := 21) (st := [.int (if cb = false then va else ca)]) (lv' := [(0, .ref (ob 2)), (1, .ref ex), (2, .int (jb cb))]) (nL := 6) (fun ls hl => ?_) (fun J21 => ?_)
  · refine lv_istore_n (lv' := [(3, .int (if cb = false then va else ca)), (0, .ref (ob 2)), (1, .ref ex), (2, .int (jb cb))]) hx hb d_Bas_changeCsr_21 rfl hl (by decide) rfl (fun ls hl => ?_)
    refine lv_aload_n hx hb d_Bas_changeCsr_22 rfl (lv_at hl 2 rfl) ?_
    refine q_get S hw ly_Ins 14 rfl rfl 4 (by decide) tb_1_158 rfl rfl d_Bas_changeCsr_23 ?_
    refine lv_iconst (v := 4) hx hb d_Bas_changeCsr_26 (by decide) ?_
    refine q_join (pcJ := 52) (st := [.int (csOp R xb)]) (lv' := [(3, .int (if cb = false then va else ca)), (0, .ref (ob 2)), (1, .ref ex), (2, .int (jb cb))]) (nL := 6) (fun ls hl => ?_) (fun J52 => ?_)
    · refine lv_istore (lv' := [(4, .int (csOp R xb)), (3, .int (if cb = false then va else ca)), (0, .ref (ob 2)), (1, .ref ex), (2, .int (jb cb))]) hx hb d_Bas_changeCsr_52 hl (by decide) rfl (fun ls hl => ?_)
      refine lv_iload hx hb d_Bas_changeCsr_54 (lv_at hl 0 rfl) ?_
      refine lv_istore (lv' := [(5, .int (csOp R xb)), (4, .int (csOp R xb)), (3, .int (if cb = false then va else ca)), (0, .ref (ob 2)), (1, .ref ex), (2, .int (jb cb))]) hx hb d_Bas_changeCsr_56 hl (by decide) rfl (fun ls hl => ?_)
      refine lv_aload_n hx hb d_Bas_changeCsr_58 rfl (lv_at hl 4 rfl) ?_
      refine q_get S hw ly_Ins 14 rfl rfl 4 (by decide) tb_1_158 rfl rfl d_Bas_changeCsr_59 ?_
      refine lv_iconst (v := 3) hx hb d_Bas_changeCsr_62 (by decide) ?_
      refine lv_iand hx hb d_Bas_changeCsr_63 ?_
      refine lv_iconst (v := 2) hx hb d_Bas_changeCsr_64 (by decide) ?_
      refine q_join (pcJ := 95) (st := []) (lv' := [(5, .int (csNx (nI (nFn xb)) (if cb = false then va else ca) (csOp R xb))), (4, .int (csOp R xb)), (3, .int (if cb = false then va else ca)), (0, .ref (ob 2)), (1, .ref ex), (2, .int (jb cb))]) (nL := 6) (fun ls hl => ?_) (fun J95 => ?_)
      · refine lv_iload_n hx hb d_Bas_changeCsr_95 rfl (lv_at hl 5 rfl) ?_
        refine q_ifz_eq S d_Bas_changeCsr_96 rfl (fun h96 => ?_) (fun h96 => ?_)
        · refine lv_aload_n hx hb d_Bas_changeCsr_111 rfl (lv_at hl 3 rfl) ?_
          refine q_get S hw ly_Bas 18 rfl rfl 0 (by decide) tb_2_14 rfl rfl d_Bas_changeCsr_112 ?_
          refine lv_iload hx hb d_Bas_changeCsr_115 (lv_at hl 0 rfl) ?_
          refine q_put (v := .int (csNx (nI (nFn xb)) (if cb = false then va else ca) (csOp R xb))) S hw ly_Sta t_Sta t_Sta_ok n_Sta 16 rfl rfl 6 (by decide) tb_1_226 rfl rfl rfl rfl (Nat.le_of_ble_eq_true rfl) d_Bas_changeCsr_117 (fun H locs hw => ?_)
          have hw : Lv _ _ _ _ _ (CW ad ti u pi ex de xi xb di db fi fb ob reg kq ca (csNx (nI (nFn xb)) (if cb = false then va else ca) (csOp R xb)) fv R) _ _ _ := hw
          refine lv_aload_n hx hb d_Bas_changeCsr_120 rfl (lv_at hl 3 rfl) ?_
          refine q_get S hw ly_Bas 18 rfl rfl 0 (by decide) tb_2_14 rfl rfl d_Bas_changeCsr_121 ?_
          refine lv_aload_n hx hb d_Bas_changeCsr_124 rfl (lv_at hl 4 rfl) ?_
          refine q_get S hw ly_Ins 14 rfl rfl 3 (by decide) tb_1_154 rfl rfl d_Bas_changeCsr_125 ?_
          refine lv_iload_n hx hb d_Bas_changeCsr_128 rfl (lv_at hl 2 rfl) ?_
          refine q_cg (q_runV (As := [.int (nI (nRd xb)), .int (if cb = false then va else ca)]) (rest := []) S (c_Sta_answerNumber l D ti ad u pi ex de xi xb di db fi fb ob reg kq ca (csNx (nI (nFn xb)) (if cb = false then va else ca) (csOp R xb)) fv R (nRd xb) (by first | decide | omega) (if cb = false then va else ca)) (cw_v hts tb_4_127 k_Sta_answerNumber rfl rfl ⟨by decide, by decide⟩) hw 16 rfl rfl rfl hl.1 rfl (Nat.le_of_ble_eq_true rfl) d_Bas_changeCsr_129 ⟨Nat.zero_le _, Nat.zero_le _⟩) hw (fun z hD => CW_D (qD_same hD rfl)) (fun z9 H locs hp9 hw => ?_)
          refine W.eq (g2 := F0 m9 132 ls [.int (-1 : Int32)]) rfl ?_
          have hw : Lv _ _ _ _ _ (CW ad ti u pi ex de xi xb di db fi fb ob reg kq ca (csNx (nI (nFn xb)) (if cb = false then va else ca) (csOp R xb)) fv (nR R (nRd xb) (if cb = false then va else ca))) _ _ _ := hw
          exact hw.riz S hr hlk (rfl) d_Bas_changeCsr_132 () (rfl) (trivial) (by simp [h96])
        · refine lv_aload_n hx hb d_Bas_changeCsr_99 rfl (lv_at hl 3 rfl) ?_
          refine q_get S hw ly_Bas 18 rfl rfl 0 (by decide) tb_2_14 rfl rfl d_Bas_changeCsr_100 ?_
          refine lv_iload hx hb d_Bas_changeCsr_103 (lv_at hl 0 rfl) ?_
          refine q_put (v := .int (csNx (nI (nFn xb)) (if cb = false then va else ca) (csOp R xb))) S hw ly_Sta t_Sta t_Sta_ok n_Sta 16 rfl rfl 5 (by decide) tb_1_224 rfl rfl rfl rfl (Nat.le_of_ble_eq_true rfl) d_Bas_changeCsr_105 (fun H locs hw => ?_)
          have hw : Lv _ _ _ _ _ (CW ad ti u pi ex de xi xb di db fi fb ob reg kq (csNx (nI (nFn xb)) (if cb = false then va else ca) (csOp R xb)) va fv R) _ _ _ := hw
          refine lv_goto hx hb d_Bas_changeCsr_108 rfl ?_
          refine lv_aload_n hx hb d_Bas_changeCsr_120 rfl (lv_at hl 3 rfl) ?_
          refine q_get S hw ly_Bas 18 rfl rfl 0 (by decide) tb_2_14 rfl rfl d_Bas_changeCsr_121 ?_
          refine lv_aload_n hx hb d_Bas_changeCsr_124 rfl (lv_at hl 4 rfl) ?_
          refine q_get S hw ly_Ins 14 rfl rfl 3 (by decide) tb_1_154 rfl rfl d_Bas_changeCsr_125 ?_
          refine lv_iload_n hx hb d_Bas_changeCsr_128 rfl (lv_at hl 2 rfl) ?_
          refine q_cg (q_runV (As := [.int (nI (nRd xb)), .int (if cb = false then va else ca)]) (rest := []) S (c_Sta_answerNumber l D ti ad u pi ex de xi xb di db fi fb ob reg kq (csNx (nI (nFn xb)) (if cb = false then va else ca) (csOp R xb)) va fv R (nRd xb) (by first | decide | omega) (if cb = false then va else ca)) (cw_v hts tb_4_127 k_Sta_answerNumber rfl rfl ⟨by decide, by decide⟩) hw 16 rfl rfl rfl hl.1 rfl (Nat.le_of_ble_eq_true rfl) d_Bas_changeCsr_129 ⟨Nat.zero_le _, Nat.zero_le _⟩) hw (fun z hD => CW_D (qD_same hD rfl)) (fun z9 H locs hp9 hw => ?_)
          refine W.eq (g2 := F0 m9 132 ls [.int (-1 : Int32)]) rfl ?_
          have hw : Lv _ _ _ _ _ (CW ad ti u pi ex de xi xb di db fi fb ob reg kq (csNx (nI (nFn xb)) (if cb = false then va else ca) (csOp R xb)) va fv (nR R (nRd xb) (if cb = false then va else ca))) _ _ _ := hw
          exact hw.riz S hr hlk (rfl) d_Bas_changeCsr_132 () (rfl) (trivial) (by simp [h96])
      · refine lv_icmp_ne hx hb d_Bas_changeCsr_65 rfl (fun h65 => ?_) (fun h65 => ?_)
        · refine lv_aload_n hx hb d_Bas_changeCsr_77 rfl (lv_at hl 4 rfl) ?_
          refine q_get S hw ly_Ins 14 rfl rfl 4 (by decide) tb_1_158 rfl rfl d_Bas_changeCsr_78 ?_
          refine lv_iconst (v := 3) hx hb d_Bas_changeCsr_81 (by decide) ?_
          refine lv_iand hx hb d_Bas_changeCsr_82 ?_
          refine lv_iconst (v := 3) hx hb d_Bas_changeCsr_83 (by decide) ?_
          refine lv_icmp_ne hx hb d_Bas_changeCsr_84 rfl (fun h84 => ?_) (fun h84 => ?_)
          · exact J95 _ (q_loc (l' := [(5, .int (csNx (nI (nFn xb)) (if cb = false then va else ca) (csOp R xb))), (4, .int (csOp R xb)), (3, .int (if cb = false then va else ca)), (0, .ref (ob 2)), (1, .ref ex), (2, .int (jb cb))]) (lv_sub (l' := [(5, .int (csOp R xb)), (4, .int (csOp R xb)), (3, .int (if cb = false then va else ca)), (0, .ref (ob 2)), (1, .ref ex), (2, .int (jb cb))]) hl [0, 1, 2, 3, 4, 5] rfl) (by simp only [csNx, if_neg h65, if_neg h84]))
          · refine lv_iload_n hx hb d_Bas_changeCsr_87 rfl (lv_at hl 2 rfl) ?_
            refine lv_iload hx hb d_Bas_changeCsr_88 (lv_at hl 1 rfl) ?_
            refine lv_iconst (v := -1) hx hb d_Bas_changeCsr_90 (by decide) ?_
            refine lv_ixor hx hb d_Bas_changeCsr_91 ?_
            refine lv_iand hx hb d_Bas_changeCsr_92 ?_
            refine lv_istore (lv' := [(5, .int ((if cb = false then va else ca) &&& ((csOp R xb) ^^^ (-1 : Int32)))), (4, .int (csOp R xb)), (3, .int (if cb = false then va else ca)), (0, .ref (ob 2)), (1, .ref ex), (2, .int (jb cb))]) hx hb d_Bas_changeCsr_93 hl (by decide) rfl (fun ls hl => ?_)
            exact J95 _ (q_loc (l' := [(5, .int (csNx (nI (nFn xb)) (if cb = false then va else ca) (csOp R xb))), (4, .int (csOp R xb)), (3, .int (if cb = false then va else ca)), (0, .ref (ob 2)), (1, .ref ex), (2, .int (jb cb))]) (lv_sub (l' := [(5, .int ((if cb = false then va else ca) &&& ((csOp R xb) ^^^ (-1 : Int32)))), (4, .int (csOp R xb)), (3, .int (if cb = false then va else ca)), (0, .ref (ob 2)), (1, .ref ex), (2, .int (jb cb))]) hl [0, 1, 2, 3, 4, 5] rfl) (by simp only [csNx, if_neg h65, if_pos h84]))
        · refine lv_iload_n hx hb d_Bas_changeCsr_68 rfl (lv_at hl 2 rfl) ?_
          refine lv_iload hx hb d_Bas_changeCsr_69 (lv_at hl 1 rfl) ?_
          refine lv_ior hx hb d_Bas_changeCsr_71 ?_
          refine lv_istore (lv' := [(5, .int ((if cb = false then va else ca) ||| (csOp R xb))), (4, .int (csOp R xb)), (3, .int (if cb = false then va else ca)), (0, .ref (ob 2)), (1, .ref ex), (2, .int (jb cb))]) hx hb d_Bas_changeCsr_72 hl (by decide) rfl (fun ls hl => ?_)
          refine lv_goto hx hb d_Bas_changeCsr_74 rfl ?_
          exact J95 _ (q_loc (l' := [(5, .int (csNx (nI (nFn xb)) (if cb = false then va else ca) (csOp R xb))), (4, .int (csOp R xb)), (3, .int (if cb = false then va else ca)), (0, .ref (ob 2)), (1, .ref ex), (2, .int (jb cb))]) (lv_sub (l' := [(5, .int ((if cb = false then va else ca) ||| (csOp R xb))), (4, .int (csOp R xb)), (3, .int (if cb = false then va else ca)), (0, .ref (ob 2)), (1, .ref ex), (2, .int (jb cb))]) hl [0, 1, 2, 3, 4, 5] rfl) (by simp only [csNx, if_pos h65]))
    · refine lv_icmp_lt hx hb d_Bas_changeCsr_27 rfl (fun h27 => ?_) (fun h27 => ?_)
      · refine lv_aload_n hx hb d_Bas_changeCsr_37 rfl (lv_at hl 1 rfl) ?_
        refine q_get S hw ly_Bas 18 rfl rfl 0 (by decide) tb_2_14 rfl rfl d_Bas_changeCsr_38 ?_
        refine q_get S hw ly_Sta 16 rfl rfl 0 (by decide) tb_1_209 rfl rfl d_Bas_changeCsr_41 ?_
        refine lv_aload_n hx hb d_Bas_changeCsr_44 rfl (lv_at hl 2 rfl) ?_
        refine q_get S hw ly_Ins 14 rfl rfl 5 (by decide) tb_1_161 rfl rfl d_Bas_changeCsr_45 ?_
        refine q_aaldN (k := (nR1 xb)) S hw 17 3 rfl rfl (by first | assumption | omega) (by decide) d_Bas_changeCsr_48 ?_
        refine q_get S hw ly_Cap (21 + (nR1 xb)) (CW_at (by first | decide | omega)) rfl 1 (by decide) tb_1_52 rfl rfl d_Bas_changeCsr_49 ?_
        refine q_topi (z := (csOp R xb)) (by simp only [csOp, if_pos h27]) ?_
        exact J52 _ (lv_sub (l' := [(3, .int (if cb = false then va else ca)), (0, .ref (ob 2)), (1, .ref ex), (2, .int (jb cb))]) hl [0, 1, 2, 3] rfl)
      · refine lv_aload_n hx hb d_Bas_changeCsr_30 rfl (lv_at hl 2 rfl) ?_
        refine q_get S hw ly_Ins 14 rfl rfl 5 (by decide) tb_1_161 rfl rfl d_Bas_changeCsr_31 ?_
        refine lv_goto hx hb d_Bas_changeCsr_34 rfl ?_
        refine q_topi (z := (csOp R xb)) (by simp only [csOp, if_neg h27]) ?_
        exact J52 _ (lv_sub (l' := [(3, .int (if cb = false then va else ca)), (0, .ref (ob 2)), (1, .ref ex), (2, .int (jb cb))]) hl [0, 1, 2, 3] rfl)
  · refine q_ifz_eq S d_Bas_changeCsr_1 rfl (fun h1 => ?_) (fun h1 => ?_)
    · refine lv_aload_n hx hb d_Bas_changeCsr_14 rfl (lv_at hl 0 rfl) ?_
      refine q_get S hw ly_Bas 18 rfl rfl 0 (by decide) tb_2_14 rfl rfl d_Bas_changeCsr_15 ?_
      refine q_get S hw ly_Sta 16 rfl rfl 6 (by decide) tb_1_226 rfl rfl d_Bas_changeCsr_18 ?_
      refine q_topi (z := (if cb = false then va else ca)) (by simp [h1]) ?_
      exact J21 _ (lv_sub (l' := [(0, .ref (ob 2)), (1, .ref ex), (2, .int (jb cb))]) hl [0, 1, 2] rfl)
    · refine lv_aload_n hx hb d_Bas_changeCsr_4 rfl (lv_at hl 0 rfl) ?_
      refine q_get S hw ly_Bas 18 rfl rfl 0 (by decide) tb_2_14 rfl rfl d_Bas_changeCsr_5 ?_
      refine q_get S hw ly_Sta 16 rfl rfl 5 (by decide) tb_1_224 rfl rfl d_Bas_changeCsr_8 ?_
      refine lv_goto hx hb d_Bas_changeCsr_11 rfl ?_
      refine q_topi (z := (if cb = false then va else ca)) (by simp [h1]) ?_
      exact J21 _ (lv_sub (l' := [(0, .ref (ob 2)), (1, .ref ex), (2, .int (jb cb))]) hl [0, 1, 2] rfl)
set_option maxHeartbeats 4000000 in
set_option maxRecDepth 100000 in
theorem c_Bas_system (l : Launch) (D : va_G) (ti : Nat → ClassId) (ad : Nat → Nat) (u : MT) (pi ex de : Nat) (xi xb di db fi fb : Int32) (ob reg : Nat → Nat) (kq : Int32 × Bool × Bool × Int32 × Int64) (ca va fv : Int32) (R : Nat → Cap) : Cg l y_Bas_system (wl y_Bas_system b_Bas_system 4 (some .int)) (rmL 3) D clz (ty4 ti) [.ref (ob 2), .ref ex] (CW ad ti u pi ex de xi xb di db fi fb ob reg kq ca va fv R) (fun _ : Unit => some (.int (xSys fv ca va R xb).1)) (fun _ => (CW ad ti u pi ex de xi xb di db fi fb ob reg kq ((xSys fv ca va R xb).2.2.2.1) ((xSys fv ca va R xb).2.2.2.2) ((xSys fv ca va R xb).2.1) ((xSys fv ca va R xb).2.2.1))) (fun _ => True) := by
  refine Cg.ofF (plainFor_of_name (by decide)) (Nat.le_of_ble_eq_true rfl) ?_
  intro p9 e9 s9 m9 b9 me9 c9 ls S hr hlk hl hw
  obtain ⟨hx, hb, hml, hown, hts⟩ := id S
  have hl : lv_has ls 4 [(0, .ref (ob 2)), (1, .ref ex)] := hl
  have hr1 := nR1_lt xb
  have hr2 := nR2_lt xb
  have hrd := nRd_lt xb
  refine lv_aload_n hx hb d_Bas_system_0 rfl (lv_at hl 1 rfl) ?_
  refine q_get S hw ly_Ins 14 rfl rfl 1 (by decide) tb_1_149 rfl rfl d_Bas_system_1 ?_
  refine lv_bipush (v := 115) hx hb d_Bas_system_4 (by decide) ?_
  refine lv_icmp_ne hx hb d_Bas_system_6 rfl (fun h6 => ?_) (fun h6 => ?_)
  · refine lv_aload_n hx hb d_Bas_system_20 rfl (lv_at hl 1 rfl) ?_
    refine q_get S hw ly_Ins 14 rfl rfl 1 (by decide) tb_1_149 rfl rfl d_Bas_system_21 ?_
    refine lv_ldc (v := 1048691) hx hb hown (hts _ tb_4_214) d_Bas_system_24 ?_
    refine lv_icmp_ne hx hb d_Bas_system_26 rfl (fun h26 => ?_) (fun h26 => ?_)
    · refine lv_aload_n hx hb d_Bas_system_39 rfl (lv_at hl 1 rfl) ?_
      refine q_get S hw ly_Ins 14 rfl rfl 1 (by decide) tb_1_149 rfl rfl d_Bas_system_40 ?_
      refine lv_bipush (v := 20) hx hb d_Bas_system_43 (by decide) ?_
      refine lv_iushr (v := (jus xb (20 : Int32))) hx hb d_Bas_system_45 rfl ?_
      refine lv_istore_n (lv' := [(2, .int (jus xb (20 : Int32))), (0, .ref (ob 2)), (1, .ref ex)]) hx hb d_Bas_system_46 rfl hl (by decide) rfl (fun ls hl => ?_)
      refine lv_aload_n hx hb d_Bas_system_47 rfl (lv_at hl 2 rfl) ?_
      refine q_get S hw ly_Ins 14 rfl rfl 4 (by decide) tb_1_158 rfl rfl d_Bas_system_48 ?_
      refine lv_iconst (v := 3) hx hb d_Bas_system_51 (by decide) ?_
      refine lv_iand hx hb d_Bas_system_52 ?_
      refine q_join (pcJ := 75) (st := [.int (jb (isCsr xb))]) (lv' := [(2, .int (jus xb (20 : Int32))), (0, .ref (ob 2)), (1, .ref ex)]) (nL := 4) (fun ls hl => ?_) (fun J75 => ?_)
      · refine lv_istore_n (lv' := [(3, .int (jb (isCsr xb))), (2, .int (jus xb (20 : Int32))), (0, .ref (ob 2)), (1, .ref ex)]) hx hb d_Bas_system_75 rfl hl (by decide) rfl (fun ls hl => ?_)
        refine lv_aload_n hx hb d_Bas_system_76 rfl (lv_at hl 3 rfl) ?_
        refine q_get S hw ly_Ins 14 rfl rfl 1 (by decide) tb_1_149 rfl rfl d_Bas_system_77 ?_
        refine lv_ldc (v := 807403635) hx hb hown (hts _ tb_4_215) d_Bas_system_80 ?_
        refine lv_icmp_eq hx hb d_Bas_system_82 rfl (fun h82 => ?_) (fun h82 => ?_)
        · refine lv_aload_n hx hb d_Bas_system_98 rfl (lv_at hl 2 rfl) ?_
          refine q_get S hw ly_Bas 18 rfl rfl 0 (by decide) tb_2_14 rfl rfl d_Bas_system_99 ?_
          refine q_get S hw ly_Sta 16 rfl rfl 1 (by decide) tb_1_211 rfl rfl d_Bas_system_102 ?_
          refine lv_bipush (v := 10) hx hb d_Bas_system_105 (by decide) ?_
          refine q_cr (q_runV (As := [.int (10 : Int32)]) (rest := []) S (w_may l D ti ad u pi ex de xi xb di db fi fb ob reg kq ca va fv R (32) (by first | decide | omega) (10 : Int32)) (cw_v hts tb_4_113 k_Cap_may rfl rfl ⟨by decide, by decide⟩) hw (21 + (32)) (CW_at (by first | decide | omega)) rfl rfl hl.1 rfl (Nat.le_of_ble_eq_true rfl) d_Bas_system_107 ⟨Nat.zero_le _, Nat.zero_le _⟩) ?_
          refine W.eq (g2 := F0 m9 110 ls [.int (jb (cMay (R 32).2.2 (10 : Int32)))]) rfl ?_
          refine q_ifz_ne S d_Bas_system_110 rfl (fun h110 => ?_) (fun h110 => ?_)
          · refine lv_iload_n hx hb d_Bas_system_125 rfl (lv_at hl 0 rfl) ?_
            refine q_ifz_eq S d_Bas_system_126 rfl (fun h126 => ?_) (fun h126 => ?_)
            · refine lv_aload_n hx hb d_Bas_system_149 rfl (lv_at hl 2 rfl) ?_
              refine q_cg (q_runV (As := []) (rest := []) S (c_Bas_returnFromTrap l D ti ad u pi ex de xi xb di db fi fb ob reg kq ca va fv R) (cw_v hts tb_4_220 k_Bas_returnFromTrap rfl rfl ⟨by decide, by decide⟩) hw 18 rfl rfl rfl hl.1 rfl (Nat.le_of_ble_eq_true rfl) d_Bas_system_150 ⟨Nat.zero_le _, Nat.zero_le _⟩) hw (fun z hD => CW_D (qD_same hD rfl)) (fun z9 H locs hp9 hw => ?_)
              refine W.eq (g2 := F0 m9 153 ls [.int (-2 : Int32)]) rfl ?_
              have hw : Lv _ _ _ _ _ (CW ad ti u pi ex de xi xb di db fi fb ob reg kq ca va fv (rtR R)) _ _ _ := hw
              exact hw.riz S hr hlk (rfl) d_Bas_system_153 () (by rw [xSys, if_neg h6, if_neg h26, if_pos (Or.inl h82)]; simp [h110, h126]) (trivial) (by rw [xSys, if_neg h6, if_neg h26, if_pos (Or.inl h82)]; simp [h110, h126])
            · refine lv_aload_n hx hb d_Bas_system_129 rfl (lv_at hl 2 rfl) ?_
              refine lv_aload_n hx hb d_Bas_system_130 rfl (lv_at hl 3 rfl) ?_
              refine lv_iload_n hx hb d_Bas_system_131 rfl (lv_at hl 1 rfl) ?_
              refine lv_sipush (v := 834) hx hb d_Bas_system_132 (by decide) ?_
              refine lv_icmp_ne hx hb d_Bas_system_135 rfl (fun h135 => ?_) (fun h135 => ?_)
              · refine lv_iconst (v := 0) hx hb d_Bas_system_142 (by decide) ?_
                refine q_cg (q_runV (As := [.ref ex, .int (jb false)]) (rest := []) S (c_Bas_changeCsr l D ti ad u pi ex de xi xb di db fi fb ob reg kq ca va fv R false) (cw_v hts tb_4_216 k_Bas_changeCsr rfl rfl ⟨by decide, by decide⟩) hw 18 rfl rfl rfl hl.1 rfl (Nat.le_of_ble_eq_true rfl) d_Bas_system_143 ⟨Nat.zero_le _, Nat.zero_le _⟩) hw (fun z hD => CW_D (qD_same hD rfl)) (fun z9 H locs hp9 hw => ?_)
                refine W.eq (g2 := F0 m9 146 ls [.int (-1 : Int32)]) rfl ?_
                have hw : Lv _ _ _ _ _ (CW ad ti u pi ex de xi xb di db fi fb ob reg kq (if false = false then ca else (csNx (nI (nFn xb)) (if false = false then va else ca) (csOp R xb))) (if false = false then (csNx (nI (nFn xb)) (if false = false then va else ca) (csOp R xb)) else va) fv (nR R (nRd xb) (if false = false then va else ca))) _ _ _ := hw
                refine lv_goto hx hb d_Bas_system_146 rfl ?_
                exact hw.riz S hr hlk (rfl) d_Bas_system_153 () (by rw [xSys, if_neg h6, if_neg h26, if_pos (Or.inl h82)]; simp [h110, h126, h135]) (trivial) (by rw [xSys, if_neg h6, if_neg h26, if_pos (Or.inl h82)]; simp [h110, h126, h135])
              · refine lv_iconst (v := 1) hx hb d_Bas_system_138 (by decide) ?_
                refine lv_goto hx hb d_Bas_system_139 rfl ?_
                refine q_cg (q_runV (As := [.ref ex, .int (jb true)]) (rest := []) S (c_Bas_changeCsr l D ti ad u pi ex de xi xb di db fi fb ob reg kq ca va fv R true) (cw_v hts tb_4_216 k_Bas_changeCsr rfl rfl ⟨by decide, by decide⟩) hw 18 rfl rfl rfl hl.1 rfl (Nat.le_of_ble_eq_true rfl) d_Bas_system_143 ⟨Nat.zero_le _, Nat.zero_le _⟩) hw (fun z hD => CW_D (qD_same hD rfl)) (fun z9 H locs hp9 hw => ?_)
                refine W.eq (g2 := F0 m9 146 ls [.int (-1 : Int32)]) rfl ?_
                have hw : Lv _ _ _ _ _ (CW ad ti u pi ex de xi xb di db fi fb ob reg kq (if true = false then ca else (csNx (nI (nFn xb)) (if true = false then va else ca) (csOp R xb))) (if true = false then (csNx (nI (nFn xb)) (if true = false then va else ca) (csOp R xb)) else va) fv (nR R (nRd xb) (if true = false then va else ca))) _ _ _ := hw
                refine lv_goto hx hb d_Bas_system_146 rfl ?_
                exact hw.riz S hr hlk (rfl) d_Bas_system_153 () (by rw [xSys, if_neg h6, if_neg h26, if_pos (Or.inl h82)]; simp [h110, h126, h135]) (trivial) (by rw [xSys, if_neg h6, if_neg h26, if_pos (Or.inl h82)]; simp [h110, h126, h135])
          · refine lv_aload_n hx hb d_Bas_system_113 rfl (lv_at hl 2 rfl) ?_
            refine q_get S hw ly_Bas 18 rfl rfl 0 (by decide) tb_2_14 rfl rfl d_Bas_system_114 ?_
            refine lv_bipush (v := 32) hx hb d_Bas_system_117 (by decide) ?_
            refine lv_bipush (v := 24) hx hb d_Bas_system_119 (by decide) ?_
            refine q_cg (q_runV (As := [.int (32 : Int32), .int (24 : Int32)]) (rest := []) S (c_Sta_capabilityFault l D ti ad u pi ex de xi xb di db fi fb ob reg kq ca va fv R 32 (24 : Int32)) (cw_v hts tb_4_156 k_Sta_capabilityFault rfl rfl ⟨by decide, by decide⟩) hw 16 rfl rfl rfl hl.1 rfl (Nat.le_of_ble_eq_true rfl) d_Bas_system_121 ⟨Nat.zero_le _, Nat.zero_le _⟩) hw (fun z hD => qD_same hD rfl) (fun z9 H locs hp9 hw => ?_)
            refine W.eq (g2 := F0 m9 124 ls [.int (28 : Int32)]) rfl ?_
            have hw : Lv _ _ _ _ _ (CW ad ti u pi ex de xi xb di db fi fb ob reg kq ca va (32 * nI 32 + (24 : Int32)) R) _ _ _ := hw
            exact hw.riz S hr hlk (rfl) d_Bas_system_124 () (by rw [xSys, if_neg h6, if_neg h26, if_pos (Or.inl h82)]; simp [h110]) (trivial) (by rw [xSys, if_neg h6, if_neg h26, if_pos (Or.inl h82)]; simp [h110])
        · refine lv_iload_n hx hb d_Bas_system_85 rfl (lv_at hl 0 rfl) ?_
          refine q_ifz_ne S d_Bas_system_86 rfl (fun h86 => ?_) (fun h86 => ?_)
          · refine lv_aload_n hx hb d_Bas_system_98 rfl (lv_at hl 2 rfl) ?_
            refine q_get S hw ly_Bas 18 rfl rfl 0 (by decide) tb_2_14 rfl rfl d_Bas_system_99 ?_
            refine q_get S hw ly_Sta 16 rfl rfl 1 (by decide) tb_1_211 rfl rfl d_Bas_system_102 ?_
            refine lv_bipush (v := 10) hx hb d_Bas_system_105 (by decide) ?_
            refine q_cr (q_runV (As := [.int (10 : Int32)]) (rest := []) S (w_may l D ti ad u pi ex de xi xb di db fi fb ob reg kq ca va fv R (32) (by first | decide | omega) (10 : Int32)) (cw_v hts tb_4_113 k_Cap_may rfl rfl ⟨by decide, by decide⟩) hw (21 + (32)) (CW_at (by first | decide | omega)) rfl rfl hl.1 rfl (Nat.le_of_ble_eq_true rfl) d_Bas_system_107 ⟨Nat.zero_le _, Nat.zero_le _⟩) ?_
            refine W.eq (g2 := F0 m9 110 ls [.int (jb (cMay (R 32).2.2 (10 : Int32)))]) rfl ?_
            refine q_ifz_ne S d_Bas_system_110 rfl (fun h110 => ?_) (fun h110 => ?_)
            · refine lv_iload_n hx hb d_Bas_system_125 rfl (lv_at hl 0 rfl) ?_
              refine q_ifz_eq S d_Bas_system_126 rfl (fun h126 => ?_) (fun h126 => ?_)
              · refine lv_aload_n hx hb d_Bas_system_149 rfl (lv_at hl 2 rfl) ?_
                refine q_cg (q_runV (As := []) (rest := []) S (c_Bas_returnFromTrap l D ti ad u pi ex de xi xb di db fi fb ob reg kq ca va fv R) (cw_v hts tb_4_220 k_Bas_returnFromTrap rfl rfl ⟨by decide, by decide⟩) hw 18 rfl rfl rfl hl.1 rfl (Nat.le_of_ble_eq_true rfl) d_Bas_system_150 ⟨Nat.zero_le _, Nat.zero_le _⟩) hw (fun z hD => CW_D (qD_same hD rfl)) (fun z9 H locs hp9 hw => ?_)
                refine W.eq (g2 := F0 m9 153 ls [.int (-2 : Int32)]) rfl ?_
                have hw : Lv _ _ _ _ _ (CW ad ti u pi ex de xi xb di db fi fb ob reg kq ca va fv (rtR R)) _ _ _ := hw
                exact hw.riz S hr hlk (rfl) d_Bas_system_153 () (by rw [xSys, if_neg h6, if_neg h26, if_pos (Or.inr h86)]; simp [h110, h126]) (trivial) (by rw [xSys, if_neg h6, if_neg h26, if_pos (Or.inr h86)]; simp [h110, h126])
              · refine lv_aload_n hx hb d_Bas_system_129 rfl (lv_at hl 2 rfl) ?_
                refine lv_aload_n hx hb d_Bas_system_130 rfl (lv_at hl 3 rfl) ?_
                refine lv_iload_n hx hb d_Bas_system_131 rfl (lv_at hl 1 rfl) ?_
                refine lv_sipush (v := 834) hx hb d_Bas_system_132 (by decide) ?_
                refine lv_icmp_ne hx hb d_Bas_system_135 rfl (fun h135 => ?_) (fun h135 => ?_)
                · refine lv_iconst (v := 0) hx hb d_Bas_system_142 (by decide) ?_
                  refine q_cg (q_runV (As := [.ref ex, .int (jb false)]) (rest := []) S (c_Bas_changeCsr l D ti ad u pi ex de xi xb di db fi fb ob reg kq ca va fv R false) (cw_v hts tb_4_216 k_Bas_changeCsr rfl rfl ⟨by decide, by decide⟩) hw 18 rfl rfl rfl hl.1 rfl (Nat.le_of_ble_eq_true rfl) d_Bas_system_143 ⟨Nat.zero_le _, Nat.zero_le _⟩) hw (fun z hD => CW_D (qD_same hD rfl)) (fun z9 H locs hp9 hw => ?_)
                  refine W.eq (g2 := F0 m9 146 ls [.int (-1 : Int32)]) rfl ?_
                  have hw : Lv _ _ _ _ _ (CW ad ti u pi ex de xi xb di db fi fb ob reg kq (if false = false then ca else (csNx (nI (nFn xb)) (if false = false then va else ca) (csOp R xb))) (if false = false then (csNx (nI (nFn xb)) (if false = false then va else ca) (csOp R xb)) else va) fv (nR R (nRd xb) (if false = false then va else ca))) _ _ _ := hw
                  refine lv_goto hx hb d_Bas_system_146 rfl ?_
                  exact hw.riz S hr hlk (rfl) d_Bas_system_153 () (by rw [xSys, if_neg h6, if_neg h26, if_pos (Or.inr h86)]; simp [h110, h126, h135]) (trivial) (by rw [xSys, if_neg h6, if_neg h26, if_pos (Or.inr h86)]; simp [h110, h126, h135])
                · refine lv_iconst (v := 1) hx hb d_Bas_system_138 (by decide) ?_
                  refine lv_goto hx hb d_Bas_system_139 rfl ?_
                  refine q_cg (q_runV (As := [.ref ex, .int (jb true)]) (rest := []) S (c_Bas_changeCsr l D ti ad u pi ex de xi xb di db fi fb ob reg kq ca va fv R true) (cw_v hts tb_4_216 k_Bas_changeCsr rfl rfl ⟨by decide, by decide⟩) hw 18 rfl rfl rfl hl.1 rfl (Nat.le_of_ble_eq_true rfl) d_Bas_system_143 ⟨Nat.zero_le _, Nat.zero_le _⟩) hw (fun z hD => CW_D (qD_same hD rfl)) (fun z9 H locs hp9 hw => ?_)
                  refine W.eq (g2 := F0 m9 146 ls [.int (-1 : Int32)]) rfl ?_
                  have hw : Lv _ _ _ _ _ (CW ad ti u pi ex de xi xb di db fi fb ob reg kq (if true = false then ca else (csNx (nI (nFn xb)) (if true = false then va else ca) (csOp R xb))) (if true = false then (csNx (nI (nFn xb)) (if true = false then va else ca) (csOp R xb)) else va) fv (nR R (nRd xb) (if true = false then va else ca))) _ _ _ := hw
                  refine lv_goto hx hb d_Bas_system_146 rfl ?_
                  exact hw.riz S hr hlk (rfl) d_Bas_system_153 () (by rw [xSys, if_neg h6, if_neg h26, if_pos (Or.inr h86)]; simp [h110, h126, h135]) (trivial) (by rw [xSys, if_neg h6, if_neg h26, if_pos (Or.inr h86)]; simp [h110, h126, h135])
            · refine lv_aload_n hx hb d_Bas_system_113 rfl (lv_at hl 2 rfl) ?_
              refine q_get S hw ly_Bas 18 rfl rfl 0 (by decide) tb_2_14 rfl rfl d_Bas_system_114 ?_
              refine lv_bipush (v := 32) hx hb d_Bas_system_117 (by decide) ?_
              refine lv_bipush (v := 24) hx hb d_Bas_system_119 (by decide) ?_
              refine q_cg (q_runV (As := [.int (32 : Int32), .int (24 : Int32)]) (rest := []) S (c_Sta_capabilityFault l D ti ad u pi ex de xi xb di db fi fb ob reg kq ca va fv R 32 (24 : Int32)) (cw_v hts tb_4_156 k_Sta_capabilityFault rfl rfl ⟨by decide, by decide⟩) hw 16 rfl rfl rfl hl.1 rfl (Nat.le_of_ble_eq_true rfl) d_Bas_system_121 ⟨Nat.zero_le _, Nat.zero_le _⟩) hw (fun z hD => qD_same hD rfl) (fun z9 H locs hp9 hw => ?_)
              refine W.eq (g2 := F0 m9 124 ls [.int (28 : Int32)]) rfl ?_
              have hw : Lv _ _ _ _ _ (CW ad ti u pi ex de xi xb di db fi fb ob reg kq ca va (32 * nI 32 + (24 : Int32)) R) _ _ _ := hw
              exact hw.riz S hr hlk (rfl) d_Bas_system_124 () (by rw [xSys, if_neg h6, if_neg h26, if_pos (Or.inr h86)]; simp [h110]) (trivial) (by rw [xSys, if_neg h6, if_neg h26, if_pos (Or.inr h86)]; simp [h110])
          · refine lv_aload_n hx hb d_Bas_system_89 rfl (lv_at hl 2 rfl) ?_
            refine q_get S hw ly_Bas 18 rfl rfl 0 (by decide) tb_2_14 rfl rfl d_Bas_system_90 ?_
            refine lv_aload_n hx hb d_Bas_system_93 rfl (lv_at hl 3 rfl) ?_
            refine q_cg (q_runV (As := [.ref ex]) (rest := []) S (c_Sta_illegal l D ti ad u pi ex de xi xb di db fi fb ob reg kq ca va fv R) (cw_v hts tb_4_106 k_Sta_illegal rfl rfl ⟨by decide, by decide⟩) hw 16 rfl rfl rfl hl.1 rfl (Nat.le_of_ble_eq_true rfl) d_Bas_system_94 ⟨Nat.zero_le _, Nat.zero_le _⟩) hw (fun z hD => qD_same hD rfl) (fun z9 H locs hp9 hw => ?_)
            refine W.eq (g2 := F0 m9 97 ls [.int (2 : Int32)]) rfl ?_
            have hw : Lv _ _ _ _ _ (CW ad ti u pi ex de xi xb di db fi fb ob reg kq ca va xb R) _ _ _ := hw
            exact hw.riz S hr hlk (rfl) d_Bas_system_97 () (by rw [xSys, if_neg h6, if_neg h26, if_neg (fun q => q.elim h82 (fun r => by rw [h86] at r; exact absurd r (by decide)))]) (trivial) (by rw [xSys, if_neg h6, if_neg h26, if_neg (fun q => q.elim h82 (fun r => by rw [h86] at r; exact absurd r (by decide)))])
      · refine lv_if_eq hx hb d_Bas_system_53 rfl (fun h53 => ?_) (fun h53 => ?_)
        · refine lv_iconst (v := 0) hx hb d_Bas_system_74 (by decide) ?_
          refine q_topi (z := (jb (isCsr xb))) (by simp [isCsr, jb, h6, h26, h53]) ?_
          exact J75 _ (lv_sub (l' := [(2, .int (jus xb (20 : Int32))), (0, .ref (ob 2)), (1, .ref ex)]) hl [0, 1, 2] rfl)
        · refine lv_iload_n hx hb d_Bas_system_56 rfl (lv_at hl 0 rfl) ?_
          refine lv_sipush (v := 834) hx hb d_Bas_system_57 (by decide) ?_
          refine lv_icmp_eq hx hb d_Bas_system_60 rfl (fun h60 => ?_) (fun h60 => ?_)
          · refine lv_iconst (v := 1) hx hb d_Bas_system_70 (by decide) ?_
            refine lv_goto hx hb d_Bas_system_71 rfl ?_
            refine q_topi (z := (jb (isCsr xb))) (by simp [isCsr, jb, h6, h26, h53, h60]) ?_
            exact J75 _ (lv_sub (l' := [(2, .int (jus xb (20 : Int32))), (0, .ref (ob 2)), (1, .ref ex)]) hl [0, 1, 2] rfl)
          · refine lv_iload_n hx hb d_Bas_system_63 rfl (lv_at hl 0 rfl) ?_
            refine lv_sipush (v := 835) hx hb d_Bas_system_64 (by decide) ?_
            refine lv_icmp_ne hx hb d_Bas_system_67 rfl (fun h67 => ?_) (fun h67 => ?_)
            · refine lv_iconst (v := 0) hx hb d_Bas_system_74 (by decide) ?_
              refine q_topi (z := (jb (isCsr xb))) (by simp [isCsr, jb, h6, h26, h53, h60, h67]) ?_
              exact J75 _ (lv_sub (l' := [(2, .int (jus xb (20 : Int32))), (0, .ref (ob 2)), (1, .ref ex)]) hl [0, 1, 2] rfl)
            · refine lv_iconst (v := 1) hx hb d_Bas_system_70 (by decide) ?_
              refine lv_goto hx hb d_Bas_system_71 rfl ?_
              refine q_topi (z := (jb (isCsr xb))) (by simp [isCsr, jb, h6, h26, h53, h60, h67]) ?_
              exact J75 _ (lv_sub (l' := [(2, .int (jus xb (20 : Int32))), (0, .ref (ob 2)), (1, .ref ex)]) hl [0, 1, 2] rfl)
    · refine lv_aload_n hx hb d_Bas_system_29 rfl (lv_at hl 0 rfl) ?_
      refine q_get S hw ly_Bas 18 rfl rfl 0 (by decide) tb_2_14 rfl rfl d_Bas_system_30 ?_
      refine lv_iconst (v := 3) hx hb d_Bas_system_33 (by decide) ?_
      refine lv_iconst (v := 0) hx hb d_Bas_system_34 (by decide) ?_
      refine q_cg (q_runV (As := [.int (3 : Int32), .int (0 : Int32)]) (rest := []) S (c_Sta_fault l D ti ad u pi ex de xi xb di db fi fb ob reg kq ca va fv R (3 : Int32) (0 : Int32)) (cw_v hts tb_4_189 k_Sta_fault rfl rfl ⟨by decide, by decide⟩) hw 16 rfl rfl rfl hl.1 rfl (Nat.le_of_ble_eq_true rfl) d_Bas_system_35 ⟨Nat.zero_le _, Nat.zero_le _⟩) hw (fun z hD => qD_same hD rfl) (fun z9 H locs hp9 hw => ?_)
      refine W.eq (g2 := F0 m9 38 ls [.int (3 : Int32)]) rfl ?_
      have hw : Lv _ _ _ _ _ (CW ad ti u pi ex de xi xb di db fi fb ob reg kq ca va (0 : Int32) R) _ _ _ := hw
      exact hw.riz S hr hlk (rfl) d_Bas_system_38 () (by rw [xSys, if_neg h6, if_pos h26]) (trivial) (by rw [xSys, if_neg h6, if_pos h26])
  · refine lv_aload_n hx hb d_Bas_system_9 rfl (lv_at hl 0 rfl) ?_
    refine q_get S hw ly_Bas 18 rfl rfl 0 (by decide) tb_2_14 rfl rfl d_Bas_system_10 ?_
    refine lv_bipush (v := 11) hx hb d_Bas_system_13 (by decide) ?_
    refine lv_iconst (v := 0) hx hb d_Bas_system_15 (by decide) ?_
    refine q_cg (q_runV (As := [.int (11 : Int32), .int (0 : Int32)]) (rest := []) S (c_Sta_fault l D ti ad u pi ex de xi xb di db fi fb ob reg kq ca va fv R (11 : Int32) (0 : Int32)) (cw_v hts tb_4_189 k_Sta_fault rfl rfl ⟨by decide, by decide⟩) hw 16 rfl rfl rfl hl.1 rfl (Nat.le_of_ble_eq_true rfl) d_Bas_system_16 ⟨Nat.zero_le _, Nat.zero_le _⟩) hw (fun z hD => qD_same hD rfl) (fun z9 H locs hp9 hw => ?_)
    refine W.eq (g2 := F0 m9 19 ls [.int (11 : Int32)]) rfl ?_
    have hw : Lv _ _ _ _ _ (CW ad ti u pi ex de xi xb di db fi fb ob reg kq ca va (0 : Int32) R) _ _ _ := hw
    exact hw.riz S hr hlk (rfl) d_Bas_system_19 () (by rw [xSys, if_pos h6]) (trivial) (by rw [xSys, if_pos h6])
set_option maxHeartbeats 4000000 in
set_option maxRecDepth 100000 in
theorem c_Bas_loaded (l : Launch) (D : va_G) (ti : Nat → ClassId) (ad : Nat → Nat) (u : MT) (pi ex de : Nat) (xi xb di db fi fb : Int32) (ob reg : Nat → Nat) (kq : Int32 × Bool × Bool × Int32 × Int64) (ca va fv : Int32) (R : Nat → Cap) (w g : Nat → Int32) (hM : MIt u w g) (f : Int32) (X : Nat) (hX : X < 16384) : Cg l y_Bas_loaded (wl y_Bas_loaded b_Bas_loaded 4 (some .int)) (rmL 3) D clz (ty4 ti) [.ref (ob 2), .int f, .int (nI X)] (CW ad ti u pi ex de xi xb di db fi fb ob reg kq ca va fv R) (fun z : MT => some (.int (ldV f (ldW w X)))) (fun z => (CW ad ti z pi ex de xi xb di db fi fb ob reg kq ca va fv R)) (fun z => MIt z w g) := by
  refine Cg.ofF (plainFor_of_name (by decide)) (Nat.le_of_ble_eq_true rfl) ?_
  intro p9 e9 s9 m9 b9 me9 c9 ls S hr hlk hl hw
  obtain ⟨hx, hb, hml, hown, hts⟩ := id S
  have hl : lv_has ls 4 [(0, .ref (ob 2)), (1, .int f), (2, .int (nI X))] := hl
  refine lv_aload_n hx hb d_Bas_loaded_0 rfl (lv_at hl 0 rfl) ?_
  refine q_get S hw ly_Bas 18 rfl rfl 0 (by decide) tb_2_14 rfl rfl d_Bas_loaded_1 ?_
  refine q_get S hw ly_Sta 16 rfl rfl 3 (by decide) tb_1_219 rfl rfl d_Bas_loaded_4 ?_
  refine lv_iload_n hx hb d_Bas_loaded_7 rfl (lv_at hl 2 rfl) ?_
  refine lv_iconst (v := 2) hx hb d_Bas_loaded_8 (by decide) ?_
  refine lv_iushr (v := (jus (nI X) (2 : Int32))) hx hb d_Bas_loaded_9 rfl ?_
  refine q_topi (z := (nI (X / 4))) (us2 hX) ?_
  refine q_cg (q_runV (As := [.int (nI (X / 4))]) (rest := []) S (p_readWord l D ti ad u w g hM (X / 4) (by first | assumption | omega) _) (cw_v hts tb_4_118 k_Mem_readWord rfl rfl ⟨by decide, by decide⟩) hw 0 rfl rfl rfl hl.1 rfl (Nat.le_of_ble_eq_true rfl) d_Bas_loaded_10 ⟨Nat.zero_le _, Nat.zero_le _⟩) hw (fun z hD => qD_same hD rfl) (fun u19 H locs hM20 hw => ?_)
  refine W.eq (g2 := F0 m9 13 ls [.int (w (X / 4))]) rfl ?_
  have hw : Lv _ _ _ _ _ (CW ad ti u19 pi ex de xi xb di db fi fb ob reg kq ca va fv R) _ _ _ := hw
  have hM20 : MIt u19 w g := hM20
  refine lv_bipush (v := 8) hx hb d_Bas_loaded_13 (by decide) ?_
  refine lv_iload_n hx hb d_Bas_loaded_15 rfl (lv_at hl 2 rfl) ?_
  refine lv_iconst (v := 3) hx hb d_Bas_loaded_16 (by decide) ?_
  refine lv_iand hx hb d_Bas_loaded_17 ?_
  refine q_topi (z := (nI (X % 4))) (and3 hX) ?_
  refine lv_imul hx hb d_Bas_loaded_18 ?_
  refine q_topi (z := nI (8 * (X % 4))) (pk_mul 8 (X % 4)) ?_
  refine lv_iushr (v := (jus (w (X / 4)) (nI (8 * (X % 4))))) hx hb d_Bas_loaded_19 rfl ?_
  refine lv_istore_n (lv' := [(3, .int (jus (w (X / 4)) (nI (8 * (X % 4))))), (0, .ref (ob 2)), (1, .int f), (2, .int (nI X))]) hx hb d_Bas_loaded_20 rfl hl (by decide) rfl (fun ls hl => ?_)
  refine lv_iload_n hx hb d_Bas_loaded_21 rfl (lv_at hl 2 rfl) ?_
  by_cases hc22_0 : f = (0 : Int32)
  · refine lv_tableIn hx hb d_Bas_loaded_22 (by rw [hc22_0]; decide) (by rw [hc22_0]; decide) (by rw [hc22_0]; rfl) rfl ?_
    refine lv_iload_n hx hb d_Bas_loaded_60 rfl (lv_at hl 0 rfl) ?_
    refine lv_i2b (v := ((jus (w (X / 4)) (nI (8 * (X % 4)))).toInt8.toInt32)) hx hb d_Bas_loaded_61 rfl ?_
    exact hw.riz S hr hlk (rfl) d_Bas_loaded_62 u19 (by simp [ldV, ldW, hc22_0]) (hM20) (rfl)
  by_cases hc22_1 : f = (1 : Int32)
  · refine lv_tableIn hx hb d_Bas_loaded_22 (by rw [hc22_1]; decide) (by rw [hc22_1]; decide) (by rw [hc22_1]; rfl) rfl ?_
    refine lv_iload_n hx hb d_Bas_loaded_63 rfl (lv_at hl 0 rfl) ?_
    refine lv_i2s (v := ((jus (w (X / 4)) (nI (8 * (X % 4)))).toInt16.toInt32)) hx hb d_Bas_loaded_64 rfl ?_
    exact hw.riz S hr hlk (rfl) d_Bas_loaded_65 u19 (by simp [ldV, ldW, hc22_0, hc22_1]) (hM20) (rfl)
  by_cases hc22_4 : f = (4 : Int32)
  · refine lv_tableIn hx hb d_Bas_loaded_22 (by rw [hc22_4]; decide) (by rw [hc22_4]; decide) (by rw [hc22_4]; rfl) rfl ?_
    refine lv_iload_n hx hb d_Bas_loaded_66 rfl (lv_at hl 0 rfl) ?_
    refine lv_sipush (v := 255) hx hb d_Bas_loaded_67 (by decide) ?_
    refine lv_iand hx hb d_Bas_loaded_70 ?_
    exact hw.riz S hr hlk (rfl) d_Bas_loaded_71 u19 (by simp [ldV, ldW, hc22_0, hc22_1, hc22_4]) (hM20) (rfl)
  by_cases hc22_5 : f = (5 : Int32)
  · refine lv_tableIn hx hb d_Bas_loaded_22 (by rw [hc22_5]; decide) (by rw [hc22_5]; decide) (by rw [hc22_5]; rfl) rfl ?_
    refine lv_iload_n hx hb d_Bas_loaded_72 rfl (lv_at hl 0 rfl) ?_
    refine lv_ldc (v := 65535) hx hb hown (hts _ tb_4_126) d_Bas_loaded_73 ?_
    refine lv_iand hx hb d_Bas_loaded_75 ?_
    exact hw.riz S hr hlk (rfl) d_Bas_loaded_76 u19 (by simp [ldV, ldW, hc22_0, hc22_1, hc22_4, hc22_5]) (hM20) (rfl)
  by_cases hc22_2 : f = (2 : Int32)
  · refine lv_tableIn hx hb d_Bas_loaded_22 (by rw [hc22_2]; decide) (by rw [hc22_2]; decide) (by rw [hc22_2]; rfl) rfl ?_
    refine lv_iload_n hx hb d_Bas_loaded_77 rfl (lv_at hl 0 rfl) ?_
    exact hw.riz S hr hlk (rfl) d_Bas_loaded_78 u19 (by simp [ldV, ldW, hc22_0, hc22_1, hc22_4, hc22_5, hc22_2]) (hM20) (rfl)
  by_cases hc22_3 : f = (3 : Int32)
  · refine lv_tableIn hx hb d_Bas_loaded_22 (by rw [hc22_3]; decide) (by rw [hc22_3]; decide) (by rw [hc22_3]; rfl) rfl ?_
    refine lv_iload_n hx hb d_Bas_loaded_77 rfl (lv_at hl 0 rfl) ?_
    exact hw.riz S hr hlk (rfl) d_Bas_loaded_78 u19 (by simp [ldV, ldW, hc22_0, hc22_1, hc22_4, hc22_5, hc22_2, hc22_3]) (hM20) (rfl)
  refine lv_tableOut hx hb d_Bas_loaded_22 (by have := lv_neT hc22_0 (a := 0) rfl; have := lv_neT hc22_1 (a := 1) rfl; have := lv_neT hc22_4 (a := 4) rfl; have := lv_neT hc22_5 (a := 5) rfl; have := lv_neT hc22_2 (a := 2) rfl; have := lv_neT hc22_3 (a := 3) rfl; omega) rfl ?_
  refine lv_iload_n hx hb d_Bas_loaded_77 rfl (lv_at hl 0 rfl) ?_
  exact hw.riz S hr hlk (rfl) d_Bas_loaded_78 u19 (by simp [ldV, ldW, hc22_0, hc22_1, hc22_4, hc22_5, hc22_2, hc22_3]) (hM20) (rfl)
set_option maxHeartbeats 4000000 in
set_option maxRecDepth 100000 in
theorem c_Bas_loadCapability (l : Launch) (D : va_G) (ti : Nat → ClassId) (ad : Nat → Nat) (u : MT) (pi ex de : Nat) (xi xb di db fi fb : Int32) (ob reg : Nat → Nat) (kq : Int32 × Bool × Bool × Int32 × Int64) (ca va fv : Int32) (R : Nat → Cap) (w g : Nat → Int32) (hM : MIt u w g) (i : Nat) (hi : i + 1 < 4096) : Cg l y_Bas_loadCapability (wl y_Bas_loadCapability b_Bas_loadCapability 5 (some .int)) (rmL 3) D clz (ty4 ti) [.ref (ob 2), .ref ex, .int (nI i)] (CW ad ti u pi ex de xi xb di db fi fb ob reg kq ca va fv R) (fun z : MT => some (.int (-1))) (fun z => (CW ad ti z pi ex de xi xb di db fi fb ob reg kq ca va fv (lcR R xb w g i))) (fun z => MIt z w g) := by
  refine Cg.ofF (plainFor_of_name (by decide)) (Nat.le_of_ble_eq_true rfl) ?_
  intro p9 e9 s9 m9 b9 me9 c9 ls S hr hlk hl hw
  obtain ⟨hx, hb, hml, hown, hts⟩ := id S
  have hl : lv_has ls 5 [(0, .ref (ob 2)), (1, .ref ex), (2, .int (nI i))] := hl
  have hr1 := nR1_lt xb
  have hr2 := nR2_lt xb
  have hrd := nRd_lt xb
  refine lv_aload_n hx hb d_Bas_loadCapability_0 rfl (lv_at hl 0 rfl) ?_
  refine q_get S hw ly_Bas 18 rfl rfl 0 (by decide) tb_2_14 rfl rfl d_Bas_loadCapability_1 ?_
  refine q_get S hw ly_Sta 16 rfl rfl 0 (by decide) tb_1_209 rfl rfl d_Bas_loadCapability_4 ?_
  refine lv_aload_n hx hb d_Bas_loadCapability_7 rfl (lv_at hl 1 rfl) ?_
  refine q_get S hw ly_Ins 14 rfl rfl 5 (by decide) tb_1_161 rfl rfl d_Bas_loadCapability_8 ?_
  refine q_aaldN (k := (nR1 xb)) S hw 17 3 rfl rfl (by first | assumption | omega) (by decide) d_Bas_loadCapability_11 ?_
  refine lv_iconst (v := 4) hx hb d_Bas_loadCapability_12 (by decide) ?_
  refine q_cr (q_runV (As := [.int (4 : Int32)]) (rest := []) S (w_may l D ti ad u pi ex de xi xb di db fi fb ob reg kq ca va fv R (nR1 xb) (by first | decide | omega) (4 : Int32)) (cw_v hts tb_4_113 k_Cap_may rfl rfl ⟨by decide, by decide⟩) hw (21 + (nR1 xb)) (CW_at (by first | decide | omega)) rfl rfl hl.1 rfl (Nat.le_of_ble_eq_true rfl) d_Bas_loadCapability_13 ⟨Nat.zero_le _, Nat.zero_le _⟩) ?_
  refine W.eq (g2 := F0 m9 16 ls [.int (jb (cMay (R (nR1 xb)).2.2 (4 : Int32)))]) rfl ?_
  refine q_joinG (Z := MT) (pcJ := 38) (st := [.int (jb (lcT R xb g i))]) (nL := 5) (fun _ => [(0, .ref (ob 2)), (1, .ref ex), (2, .int (nI i))]) (fun z => (CW ad ti z pi ex de xi xb di db fi fb ob reg kq ca va fv R)) (fun z => MIt z w g) hw (fun z H locs ls hI38 hw hl => ?_) (fun J38 => ?_)
  · obtain ⟨u1, rfl⟩ : ∃ y, y = z := ⟨_, rfl⟩
    have hM1 : MIt u1 w g := hI38
    have hw : Lv _ _ _ _ _ (CW ad ti u1 pi ex de xi xb di db fi fb ob reg kq ca va fv R) _ _ _ := hw
    have hl : lv_has ls 5 [(0, .ref (ob 2)), (1, .ref ex), (2, .int (nI i))] := hl
    refine lv_istore_n (lv' := [(3, .int (jb (lcT R xb g i))), (0, .ref (ob 2)), (1, .ref ex), (2, .int (nI i))]) hx hb d_Bas_loadCapability_38 rfl hl (by decide) rfl (fun ls hl => ?_)
    refine lv_aload_n hx hb d_Bas_loadCapability_39 rfl (lv_at hl 1 rfl) ?_
    refine q_get S hw ly_Bas 18 rfl rfl 0 (by decide) tb_2_14 rfl rfl d_Bas_loadCapability_40 ?_
    refine q_get S hw ly_Sta 16 rfl rfl 3 (by decide) tb_1_219 rfl rfl d_Bas_loadCapability_43 ?_
    refine lv_iload_n hx hb d_Bas_loadCapability_46 rfl (lv_at hl 3 rfl) ?_
    refine q_cg (q_runV (As := [.int (nI i)]) (rest := []) S (p_readWord l D ti ad u1 w g hM1 i (by first | assumption | omega) _) (cw_v hts tb_4_118 k_Mem_readWord rfl rfl ⟨by decide, by decide⟩) hw 0 rfl rfl rfl hl.1 rfl (Nat.le_of_ble_eq_true rfl) d_Bas_loadCapability_47 ⟨Nat.zero_le _, Nat.zero_le _⟩) hw (fun z hD => qD_same hD rfl) (fun u21 H locs hM22 hw => ?_)
    refine W.eq (g2 := F0 m9 50 ls [.int (w i)]) rfl ?_
    have hw : Lv _ _ _ _ _ (CW ad ti u21 pi ex de xi xb di db fi fb ob reg kq ca va fv R) _ _ _ := hw
    have hM22 : MIt u21 w g := hM22
    refine lv_istore (lv' := [(4, .int (w i)), (3, .int (jb (lcT R xb g i))), (0, .ref (ob 2)), (1, .ref ex), (2, .int (nI i))]) hx hb d_Bas_loadCapability_50 hl (by decide) rfl (fun ls hl => ?_)
    refine lv_aload_n hx hb d_Bas_loadCapability_52 rfl (lv_at hl 2 rfl) ?_
    refine q_get S hw ly_Bas 18 rfl rfl 0 (by decide) tb_2_14 rfl rfl d_Bas_loadCapability_53 ?_
    refine q_get S hw ly_Sta 16 rfl rfl 2 (by decide) tb_1_215 rfl rfl d_Bas_loadCapability_56 ?_
    refine lv_iload_n hx hb d_Bas_loadCapability_59 rfl (lv_at hl 1 rfl) ?_
    refine lv_iload hx hb d_Bas_loadCapability_60 (lv_at hl 0 rfl) ?_
    refine lv_aload_n hx hb d_Bas_loadCapability_62 rfl (lv_at hl 2 rfl) ?_
    refine q_get S hw ly_Bas 18 rfl rfl 0 (by decide) tb_2_14 rfl rfl d_Bas_loadCapability_63 ?_
    refine q_get S hw ly_Sta 16 rfl rfl 3 (by decide) tb_1_219 rfl rfl d_Bas_loadCapability_66 ?_
    refine lv_iload_n hx hb d_Bas_loadCapability_69 rfl (lv_at hl 4 rfl) ?_
    refine lv_iconst (v := 1) hx hb d_Bas_loadCapability_70 (by decide) ?_
    refine lv_iadd hx hb d_Bas_loadCapability_71 ?_
    refine q_topi (z := nI (i + 1)) (nI_add i 1) ?_
    refine q_cg (q_runV (As := [.int (nI (i + 1))]) (rest := [.int (w i), .int (jb (lcT R xb g i)), .ref (reg 37)]) S (p_readWord l D ti ad u21 w g hM22 (i + 1) (by first | assumption | omega) _) (cw_v hts tb_4_118 k_Mem_readWord rfl rfl ⟨by decide, by decide⟩) hw 0 rfl rfl rfl hl.1 rfl (Nat.le_of_ble_eq_true rfl) d_Bas_loadCapability_72 ⟨Nat.zero_le _, Nat.zero_le _⟩) hw (fun z hD => qD_same hD rfl) (fun u23 H locs hM24 hw => ?_)
    refine W.eq (g2 := F0 m9 75 ls [.int (w (i + 1)), .int (w i), .int (jb (lcT R xb g i)), .ref (reg 37)]) rfl ?_
    have hw : Lv _ _ _ _ _ (CW ad ti u23 pi ex de xi xb di db fi fb ob reg kq ca va fv R) _ _ _ := hw
    have hM24 : MIt u23 w g := hM24
    refine lv_ldc (v := 1000194) hx hb hown (hts _ tb_4_119) d_Bas_loadCapability_75 ?_
    refine lv_ixor hx hb d_Bas_loadCapability_77 ?_
    refine q_cg (q_runV (As := [.int (jb (lcT R xb g i)), .int (w i), .int ((w (i + 1)) ^^^ (1000194 : Int32))]) (rest := []) S (w_define l D ti ad u23 pi ex de xi xb di db fi fb ob reg kq ca va fv R (37) (by first | decide | omega) (lcT R xb g i) (w i) ((w (i + 1)) ^^^ (1000194 : Int32))) (cw_v hts tb_4_120 k_Cap_define rfl rfl ⟨by decide, by decide⟩) hw (21 + (37)) (CW_at (by first | decide | omega)) rfl rfl hl.1 rfl (Nat.le_of_ble_eq_true rfl) d_Bas_loadCapability_78 ⟨Nat.zero_le _, Nat.zero_le _⟩) hw (fun z hD => CW_D hD) (fun z9 H locs hp9 hw => ?_)
    refine W.eq (g2 := F0 m9 81 ls []) rfl ?_
    have hw : Lv _ _ _ _ _ (CW ad ti u23 pi ex de xi xb di db fi fb ob reg kq ca va fv (va_up R (37) (((lcT R xb g i), (w i), ((w (i + 1)) ^^^ (1000194 : Int32))) : Cap))) _ _ _ := hw
    refine lv_aload_n hx hb d_Bas_loadCapability_81 rfl (lv_at hl 2 rfl) ?_
    refine q_get S hw ly_Bas 18 rfl rfl 0 (by decide) tb_2_14 rfl rfl d_Bas_loadCapability_82 ?_
    refine lv_aload_n hx hb d_Bas_loadCapability_85 rfl (lv_at hl 3 rfl) ?_
    refine q_get S hw ly_Ins 14 rfl rfl 3 (by decide) tb_1_154 rfl rfl d_Bas_loadCapability_86 ?_
    refine q_cg (q_runV (As := [.int (nI (nRd xb))]) (rest := []) S (c_Sta_answer l D ti ad u23 pi ex de xi xb di db fi fb ob reg kq ca va fv (va_up R (37) (((lcT R xb g i), (w i), ((w (i + 1)) ^^^ (1000194 : Int32))) : Cap)) (nRd xb) (by first | decide | omega)) (cw_v hts tb_4_121 k_Sta_answer rfl rfl ⟨by decide, by decide⟩) hw 16 rfl rfl rfl hl.1 rfl (Nat.le_of_ble_eq_true rfl) d_Bas_loadCapability_89 ⟨Nat.zero_le _, Nat.zero_le _⟩) hw (fun z hD => CW_D (qD_same hD rfl)) (fun z9 H locs hp9 hw => ?_)
    refine W.eq (g2 := F0 m9 92 ls [.int (-1 : Int32)]) rfl ?_
    have hw : Lv _ _ _ _ _ (CW ad ti u23 pi ex de xi xb di db fi fb ob reg kq ca va fv (aR (va_up R (37) (((lcT R xb g i), (w i), ((w (i + 1)) ^^^ (1000194 : Int32))) : Cap)) (nRd xb))) _ _ _ := hw
    exact hw.riz S hr hlk (rfl) d_Bas_loadCapability_92 u23 (rfl) (hM24) (rfl)
  · refine q_ifz_eq S d_Bas_loadCapability_16 rfl (fun h16 => ?_) (fun h16 => ?_)
    · refine lv_iconst (v := 0) hx hb d_Bas_loadCapability_37 (by decide) ?_
      refine q_topi (z := (jb (lcT R xb g i))) (by simp [lcT, jb, h16]) ?_
      exact J38 (u) _ _ _ (hM) hw (lv_sub (l' := [(0, .ref (ob 2)), (1, .ref ex), (2, .int (nI i))]) hl [0, 1, 2] rfl)
    · refine lv_aload_n hx hb d_Bas_loadCapability_19 rfl (lv_at hl 0 rfl) ?_
      refine q_get S hw ly_Bas 18 rfl rfl 0 (by decide) tb_2_14 rfl rfl d_Bas_loadCapability_20 ?_
      refine q_get S hw ly_Sta 16 rfl rfl 3 (by decide) tb_1_219 rfl rfl d_Bas_loadCapability_23 ?_
      refine lv_iload_n hx hb d_Bas_loadCapability_26 rfl (lv_at hl 2 rfl) ?_
      refine q_cg (q_runV (As := [.int (nI i)]) (rest := []) S (p_readTag l D ti ad u w g hM i (by first | assumption | omega) _) (cw_v hts tb_4_114 k_Mem_readTag rfl rfl ⟨by decide, by decide⟩) hw 0 rfl rfl rfl hl.1 rfl (Nat.le_of_ble_eq_true rfl) d_Bas_loadCapability_27 ⟨Nat.zero_le _, Nat.zero_le _⟩) hw (fun z hD => qD_same hD rfl) (fun u25 H locs hM26 hw => ?_)
      refine W.eq (g2 := F0 m9 30 ls [.int (jb (gTag g i))]) rfl ?_
      have hw : Lv _ _ _ _ _ (CW ad ti u25 pi ex de xi xb di db fi fb ob reg kq ca va fv R) _ _ _ := hw
      have hM26 : MIt u25 w g := hM26
      refine q_ifz_eq S d_Bas_loadCapability_30 rfl (fun h30 => ?_) (fun h30 => ?_)
      · refine lv_iconst (v := 0) hx hb d_Bas_loadCapability_37 (by decide) ?_
        refine q_topi (z := (jb (lcT R xb g i))) (by simp [lcT, jb, h16, h30]) ?_
        exact J38 (u25) _ _ _ (hM26) hw (lv_sub (l' := [(0, .ref (ob 2)), (1, .ref ex), (2, .int (nI i))]) hl [0, 1, 2] rfl)
      · refine lv_iconst (v := 1) hx hb d_Bas_loadCapability_33 (by decide) ?_
        refine lv_goto hx hb d_Bas_loadCapability_34 rfl ?_
        refine q_topi (z := (jb (lcT R xb g i))) (by simp [lcT, jb, h16, h30]) ?_
        exact J38 (u25) _ _ _ (hM26) hw (lv_sub (l' := [(0, .ref (ob 2)), (1, .ref ex), (2, .int (nI i))]) hl [0, 1, 2] rfl)
set_option maxHeartbeats 4000000 in
set_option maxRecDepth 100000 in
theorem c_Bas_load (l : Launch) (D : va_G) (ti : Nat → ClassId) (ad : Nat → Nat) (u : MT) (pi ex de : Nat) (xi xb di db fi fb : Int32) (ob reg : Nat → Nat) (kq : Int32 × Bool × Bool × Int32 × Int64) (ca va fv : Int32) (R : Nat → Cap) (w g : Nat → Int32) (hM : MIt u w g) : Cg l y_Bas_load (wl y_Bas_load b_Bas_load 5 (some .int)) (rmL 4) D clz (ty4 ti) [.ref (ob 2), .ref ex] (CW ad ti u pi ex de xi xb di db fi fb ob reg kq ca va fv R) (fun z : MT => some (.int (xLd fv R w g xb).1)) (fun z => (CW ad ti z pi ex de xi xb di db fi fb ob reg kq ca va ((xLd fv R w g xb).2.1) ((xLd fv R w g xb).2.2))) (fun z => MIt z w g) := by
  refine Cg.ofF (plainFor_of_name (by decide)) (Nat.le_of_ble_eq_true rfl) ?_
  intro p9 e9 s9 m9 b9 me9 c9 ls S hr hlk hl hw
  obtain ⟨hx, hb, hml, hown, hts⟩ := id S
  have hl : lv_has ls 5 [(0, .ref (ob 2)), (1, .ref ex)] := hl
  have hr1 := nR1_lt xb
  have hr2 := nR2_lt xb
  have hrd := nRd_lt xb
  refine lv_aload_n hx hb d_Bas_load_0 rfl (lv_at hl 1 rfl) ?_
  refine q_get S hw ly_Ins 14 rfl rfl 4 (by decide) tb_1_158 rfl rfl d_Bas_load_1 ?_
  refine lv_iconst (v := 5) hx hb d_Bas_load_4 (by decide) ?_
  refine lv_icmp_le hx hb d_Bas_load_5 rfl (fun h5 => ?_) (fun h5 => ?_)
  · refine lv_iconst (v := 1) hx hb d_Bas_load_17 (by decide) ?_
    refine lv_aload_n hx hb d_Bas_load_18 rfl (lv_at hl 1 rfl) ?_
    refine q_get S hw ly_Ins 14 rfl rfl 4 (by decide) tb_1_158 rfl rfl d_Bas_load_19 ?_
    refine lv_iconst (v := 3) hx hb d_Bas_load_22 (by decide) ?_
    refine lv_iand hx hb d_Bas_load_23 ?_
    refine lv_ishl hx hb d_Bas_load_24 ?_
    refine q_topi (z := (ldN xb)) (rfl) ?_
    refine lv_istore_n (lv' := [(2, .int (ldN xb)), (0, .ref (ob 2)), (1, .ref ex)]) hx hb d_Bas_load_25 rfl hl (by decide) rfl (fun ls hl => ?_)
    refine lv_aload_n hx hb d_Bas_load_26 rfl (lv_at hl 1 rfl) ?_
    refine q_get S hw ly_Bas 18 rfl rfl 0 (by decide) tb_2_14 rfl rfl d_Bas_load_27 ?_
    refine q_get S hw ly_Sta 16 rfl rfl 0 (by decide) tb_1_209 rfl rfl d_Bas_load_30 ?_
    refine lv_aload_n hx hb d_Bas_load_33 rfl (lv_at hl 2 rfl) ?_
    refine q_get S hw ly_Ins 14 rfl rfl 5 (by decide) tb_1_161 rfl rfl d_Bas_load_34 ?_
    refine q_aaldN (k := (nR1 xb)) S hw 17 3 rfl rfl (by first | assumption | omega) (by decide) d_Bas_load_37 ?_
    refine q_get S hw ly_Cap (21 + (nR1 xb)) (CW_at (by first | decide | omega)) rfl 1 (by decide) tb_1_52 rfl rfl d_Bas_load_38 ?_
    refine lv_aload_n hx hb d_Bas_load_41 rfl (lv_at hl 2 rfl) ?_
    refine q_get S hw ly_Ins 14 rfl rfl 8 (by decide) tb_1_170 rfl rfl d_Bas_load_42 ?_
    refine lv_iadd hx hb d_Bas_load_45 ?_
    refine q_topi (z := (ldX R xb)) (rfl) ?_
    refine lv_istore_n (lv' := [(3, .int (ldX R xb)), (2, .int (ldN xb)), (0, .ref (ob 2)), (1, .ref ex)]) hx hb d_Bas_load_46 rfl hl (by decide) rfl (fun ls hl => ?_)
    refine lv_aload_n hx hb d_Bas_load_47 rfl (lv_at hl 2 rfl) ?_
    refine q_get S hw ly_Bas 18 rfl rfl 0 (by decide) tb_2_14 rfl rfl d_Bas_load_48 ?_
    refine lv_aload_n hx hb d_Bas_load_51 rfl (lv_at hl 3 rfl) ?_
    refine q_get S hw ly_Ins 14 rfl rfl 5 (by decide) tb_1_161 rfl rfl d_Bas_load_52 ?_
    refine lv_iconst (v := 2) hx hb d_Bas_load_55 (by decide) ?_
    refine lv_bipush (v := 18) hx hb d_Bas_load_56 (by decide) ?_
    refine q_cg (q_runV (As := [.int (nI (nR1 xb)), .int (2 : Int32), .int (18 : Int32)]) (rest := []) S (c_Sta_authorityFault l D ti ad u pi ex de xi xb di db fi fb ob reg kq ca va fv R (nR1 xb) (by first | decide | omega) (2 : Int32) (18 : Int32) (by decide)) (cw_v hts tb_4_107 k_Sta_authorityFault rfl rfl ⟨by decide, by decide⟩) hw 16 rfl rfl rfl hl.1 rfl (Nat.le_of_ble_eq_true rfl) d_Bas_load_58 ⟨Nat.zero_le _, Nat.zero_le _⟩) hw (fun z hD => qD_same hD rfl) (fun z9 H locs hp9 hw => ?_)
    refine W.eq (g2 := F0 m9 61 ls [.int (aTr (authF (R (nR1 xb)) (2 : Int32) (18 : Int32)))]) rfl ?_
    have hw : Lv _ _ _ _ _ (CW ad ti u pi ex de xi xb di db fi fb ob reg kq ca va (aFv fv (nR1 xb) (authF (R (nR1 xb)) (2 : Int32) (18 : Int32))) R) _ _ _ := hw
    refine lv_istore (lv' := [(4, .int (aTr (authF (R (nR1 xb)) (2 : Int32) (18 : Int32)))), (3, .int (ldX R xb)), (2, .int (ldN xb)), (0, .ref (ob 2)), (1, .ref ex)]) hx hb d_Bas_load_61 hl (by decide) rfl (fun ls hl => ?_)
    refine lv_iload hx hb d_Bas_load_63 (lv_at hl 0 rfl) ?_
    refine lv_iconst (v := -1) hx hb d_Bas_load_65 (by decide) ?_
    refine lv_icmp_ne hx hb d_Bas_load_66 rfl (fun h66 => ?_) (fun h66 => ?_)
    · refine lv_iload hx hb d_Bas_load_85 (lv_at hl 0 rfl) ?_
      refine lv_iconst (v := -1) hx hb d_Bas_load_87 (by decide) ?_
      refine lv_icmp_eq hx hb d_Bas_load_88 rfl (fun h => absurd h (h66)) (fun _ => ?_)
      refine lv_iload hx hb d_Bas_load_91 (lv_at hl 0 rfl) ?_
      exact hw.riz S hr hlk (rfl) d_Bas_load_93 u (by unfold xLd ldA; rw [if_pos h5, if_neg h66]) (hM) (by unfold xLd ldA; rw [if_pos h5, if_neg h66])
    · refine lv_aload_n hx hb d_Bas_load_69 rfl (lv_at hl 3 rfl) ?_
      refine q_get S hw ly_Bas 18 rfl rfl 0 (by decide) tb_2_14 rfl rfl d_Bas_load_70 ?_
      refine lv_aload_n hx hb d_Bas_load_73 rfl (lv_at hl 4 rfl) ?_
      refine q_get S hw ly_Ins 14 rfl rfl 5 (by decide) tb_1_161 rfl rfl d_Bas_load_74 ?_
      refine lv_iload_n hx hb d_Bas_load_77 rfl (lv_at hl 1 rfl) ?_
      refine lv_iload_n hx hb d_Bas_load_78 rfl (lv_at hl 2 rfl) ?_
      refine lv_iconst (v := 4) hx hb d_Bas_load_79 (by decide) ?_
      refine q_cg (q_runV (As := [.int (nI (nR1 xb)), .int (ldX R xb), .int (ldN xb), .int (4 : Int32)]) (rest := []) S (c_Sta_placeFault l D ti ad u pi ex de xi xb di db fi fb ob reg kq ca va (aFv fv (nR1 xb) (authF (R (nR1 xb)) (2 : Int32) (18 : Int32))) R (nR1 xb) (by first | decide | omega) (ldX R xb) (ldN xb) (4 : Int32)) (cw_v hts tb_4_108 k_Sta_placeFault rfl rfl ⟨by decide, by decide⟩) hw 16 rfl rfl rfl hl.1 rfl (Nat.le_of_ble_eq_true rfl) d_Bas_load_80 ⟨Nat.zero_le _, Nat.zero_le _⟩) hw (fun z hD => qD_same hD rfl) (fun z9 H locs hp9 hw => ?_)
      refine W.eq (g2 := F0 m9 83 ls [.int ((plF (aFv fv (nR1 xb) (authF (R (nR1 xb)) (2 : Int32) (18 : Int32))) (nR1 xb) (R (nR1 xb)) (ldX R xb) (ldN xb) (4 : Int32)).1)]) rfl ?_
      have hw : Lv _ _ _ _ _ (CW ad ti u pi ex de xi xb di db fi fb ob reg kq ca va ((plF (aFv fv (nR1 xb) (authF (R (nR1 xb)) (2 : Int32) (18 : Int32))) (nR1 xb) (R (nR1 xb)) (ldX R xb) (ldN xb) (4 : Int32)).2) R) _ _ _ := hw
      refine lv_istore (lv' := [(4, .int ((plF (aFv fv (nR1 xb) (authF (R (nR1 xb)) (2 : Int32) (18 : Int32))) (nR1 xb) (R (nR1 xb)) (ldX R xb) (ldN xb) (4 : Int32)).1)), (3, .int (ldX R xb)), (2, .int (ldN xb)), (0, .ref (ob 2)), (1, .ref ex)]) hx hb d_Bas_load_83 hl (by decide) rfl (fun ls hl => ?_)
      refine lv_iload hx hb d_Bas_load_85 (lv_at hl 0 rfl) ?_
      refine lv_iconst (v := -1) hx hb d_Bas_load_87 (by decide) ?_
      refine lv_icmp_eq hx hb d_Bas_load_88 rfl (fun h88 => ?_) (fun h88 => ?_)
      · obtain ⟨⟨X, hX, eX⟩, ef, e0⟩ := plF_ok (fv := aFv fv (nR1 xb) (ldA R xb)) (k := nR1 xb) (c := R (nR1 xb)) (x := ldX R xb) (n := ldN xb) (tm := 4) h88 (by decide) (by decide)
        have hl : lv_has ls 5 [(4, .int ((plF (aFv fv (nR1 xb) (authF (R (nR1 xb)) (2 : Int32) (18 : Int32))) (nR1 xb) (R (nR1 xb)) (ldX R xb) (ldN xb) (4 : Int32)).1)), (3, .int (nI X)), (2, .int (ldN xb)), (0, .ref (ob 2)), (1, .ref ex)] := q_loc hl (by rw [eX])
        refine lv_iload_n hx hb d_Bas_load_94 rfl (lv_at hl 2 rfl) ?_
        refine lv_bipush (v := 8) hx hb d_Bas_load_95 (by decide) ?_
        refine lv_icmp_ne hx hb d_Bas_load_97 rfl (fun h97 => ?_) (fun h97 => ?_)
        · refine lv_aload_n hx hb d_Bas_load_111 rfl (lv_at hl 3 rfl) ?_
          refine q_get S hw ly_Bas 18 rfl rfl 0 (by decide) tb_2_14 rfl rfl d_Bas_load_112 ?_
          refine lv_aload_n hx hb d_Bas_load_115 rfl (lv_at hl 4 rfl) ?_
          refine q_get S hw ly_Ins 14 rfl rfl 3 (by decide) tb_1_154 rfl rfl d_Bas_load_116 ?_
          refine lv_aload_n hx hb d_Bas_load_119 rfl (lv_at hl 3 rfl) ?_
          refine lv_aload_n hx hb d_Bas_load_120 rfl (lv_at hl 4 rfl) ?_
          refine q_get S hw ly_Ins 14 rfl rfl 4 (by decide) tb_1_158 rfl rfl d_Bas_load_121 ?_
          refine lv_iload_n hx hb d_Bas_load_124 rfl (lv_at hl 1 rfl) ?_
          refine q_cg (q_runV (As := [.int (nI (nFn xb)), .int (nI X)]) (rest := [.int (nI (nRd xb)), .ref (ob 0)]) S (c_Bas_loaded l D ti ad u pi ex de xi xb di db fi fb ob reg kq ca va ((plF (aFv fv (nR1 xb) (authF (R (nR1 xb)) (2 : Int32) (18 : Int32))) (nR1 xb) (R (nR1 xb)) (ldX R xb) (ldN xb) (4 : Int32)).2) R w g hM (nI (nFn xb)) X (by first | assumption | omega)) (cw_v hts tb_4_122 k_Bas_loaded rfl rfl ⟨by decide, by decide⟩) hw 18 rfl rfl rfl hl.1 rfl (Nat.le_of_ble_eq_true rfl) d_Bas_load_125 ⟨Nat.zero_le _, Nat.zero_le _⟩) hw (fun z hD => CW_D (qD_same hD rfl)) (fun u27 H locs hM28 hw => ?_)
          refine W.eq (g2 := F0 m9 128 ls [.int (ldV (nI (nFn xb)) (ldW w X)), .int (nI (nRd xb)), .ref (ob 0)]) rfl ?_
          have hw : Lv _ _ _ _ _ (CW ad ti u27 pi ex de xi xb di db fi fb ob reg kq ca va ((plF (aFv fv (nR1 xb) (authF (R (nR1 xb)) (2 : Int32) (18 : Int32))) (nR1 xb) (R (nR1 xb)) (ldX R xb) (ldN xb) (4 : Int32)).2) R) _ _ _ := hw
          have hM28 : MIt u27 w g := hM28
          refine q_cg (q_runV (As := [.int (nI (nRd xb)), .int (ldV (nI (nFn xb)) (ldW w X))]) (rest := []) S (c_Sta_answerNumber l D ti ad u27 pi ex de xi xb di db fi fb ob reg kq ca va ((plF (aFv fv (nR1 xb) (authF (R (nR1 xb)) (2 : Int32) (18 : Int32))) (nR1 xb) (R (nR1 xb)) (ldX R xb) (ldN xb) (4 : Int32)).2) R (nRd xb) (by first | decide | omega) (ldV (nI (nFn xb)) (ldW w X))) (cw_v hts tb_4_127 k_Sta_answerNumber rfl rfl ⟨by decide, by decide⟩) hw 16 rfl rfl rfl hl.1 rfl (Nat.le_of_ble_eq_true rfl) d_Bas_load_128 ⟨Nat.zero_le _, Nat.zero_le _⟩) hw (fun z hD => CW_D (qD_same hD rfl)) (fun z9 H locs hp9 hw => ?_)
          refine W.eq (g2 := F0 m9 131 ls [.int (-1 : Int32)]) rfl ?_
          have hw : Lv _ _ _ _ _ (CW ad ti u27 pi ex de xi xb di db fi fb ob reg kq ca va ((plF (aFv fv (nR1 xb) (authF (R (nR1 xb)) (2 : Int32) (18 : Int32))) (nR1 xb) (R (nR1 xb)) (ldX R xb) (ldN xb) (4 : Int32)).2) (nR R (nRd xb) (ldV (nI (nFn xb)) (ldW w X)))) _ _ _ := hw
          exact hw.riz S hr hlk (rfl) d_Bas_load_131 u27 (by unfold xLd ldP ldA; rw [if_pos h5, if_pos h66, if_pos h88, if_neg h97, eX, nI_clamp (show X < 2 ^ 31 by omega)]) (hM28) (by unfold xLd ldP ldA; rw [if_pos h5, if_pos h66, if_pos h88, if_neg h97, eX, nI_clamp (show X < 2 ^ 31 by omega)])
        · have h3 := n8 (nFn xb) (nFn_lt xb) h5 h97
          have hX8 := al8 hX (by rw [← eX]; have e8 : ldN xb = 8 := h97; rw [e8] at e0; exact e0)
          refine lv_aload_n hx hb d_Bas_load_100 rfl (lv_at hl 3 rfl) ?_
          refine lv_aload_n hx hb d_Bas_load_101 rfl (lv_at hl 4 rfl) ?_
          refine lv_iload_n hx hb d_Bas_load_102 rfl (lv_at hl 1 rfl) ?_
          refine lv_iconst (v := 2) hx hb d_Bas_load_103 (by decide) ?_
          refine lv_iushr (v := (jus (nI X) (2 : Int32))) hx hb d_Bas_load_104 rfl ?_
          refine q_topi (z := (nI (X / 4))) (us2 hX) ?_
          refine q_cg (q_runV (As := [.ref ex, .int (nI (X / 4))]) (rest := []) S (c_Bas_loadCapability l D ti ad u pi ex de xi xb di db fi fb ob reg kq ca va ((plF (aFv fv (nR1 xb) (authF (R (nR1 xb)) (2 : Int32) (18 : Int32))) (nR1 xb) (R (nR1 xb)) (ldX R xb) (ldN xb) (4 : Int32)).2) R w g hM (X / 4) (by omega)) (cw_v hts tb_4_109 k_Bas_loadCapability rfl rfl ⟨by decide, by decide⟩) hw 18 rfl rfl rfl hl.1 rfl (Nat.le_of_ble_eq_true rfl) d_Bas_load_105 ⟨Nat.zero_le _, Nat.zero_le _⟩) hw (fun z hD => CW_D (qD_same hD rfl)) (fun u29 H locs hM30 hw => ?_)
          refine W.eq (g2 := F0 m9 108 ls [.int (-1 : Int32)]) rfl ?_
          have hw : Lv _ _ _ _ _ (CW ad ti u29 pi ex de xi xb di db fi fb ob reg kq ca va ((plF (aFv fv (nR1 xb) (authF (R (nR1 xb)) (2 : Int32) (18 : Int32))) (nR1 xb) (R (nR1 xb)) (ldX R xb) (ldN xb) (4 : Int32)).2) (lcR R xb w g (X / 4))) _ _ _ := hw
          have hM30 : MIt u29 w g := hM30
          refine lv_goto hx hb d_Bas_load_108 rfl ?_
          exact hw.riz S hr hlk (rfl) d_Bas_load_131 u29 (by unfold xLd ldP ldA; rw [if_pos h5, if_pos h66, if_pos h88, if_pos h97, eX, nI_clamp (show X < 2 ^ 31 by omega)]) (hM30) (by unfold xLd ldP ldA; rw [if_pos h5, if_pos h66, if_pos h88, if_pos h97, eX, nI_clamp (show X < 2 ^ 31 by omega)])
      · refine lv_iload hx hb d_Bas_load_91 (lv_at hl 0 rfl) ?_
        exact hw.riz S hr hlk (rfl) d_Bas_load_93 u (by unfold xLd ldP ldA; rw [if_pos h5, if_pos h66, if_neg h88]) (hM) (by unfold xLd ldP ldA; rw [if_pos h5, if_pos h66, if_neg h88])
  · refine lv_aload_n hx hb d_Bas_load_8 rfl (lv_at hl 0 rfl) ?_
    refine q_get S hw ly_Bas 18 rfl rfl 0 (by decide) tb_2_14 rfl rfl d_Bas_load_9 ?_
    refine lv_aload_n hx hb d_Bas_load_12 rfl (lv_at hl 1 rfl) ?_
    refine q_cg (q_runV (As := [.ref ex]) (rest := []) S (c_Sta_illegal l D ti ad u pi ex de xi xb di db fi fb ob reg kq ca va fv R) (cw_v hts tb_4_106 k_Sta_illegal rfl rfl ⟨by decide, by decide⟩) hw 16 rfl rfl rfl hl.1 rfl (Nat.le_of_ble_eq_true rfl) d_Bas_load_13 ⟨Nat.zero_le _, Nat.zero_le _⟩) hw (fun z hD => qD_same hD rfl) (fun z9 H locs hp9 hw => ?_)
    refine W.eq (g2 := F0 m9 16 ls [.int (2 : Int32)]) rfl ?_
    have hw : Lv _ _ _ _ _ (CW ad ti u pi ex de xi xb di db fi fb ob reg kq ca va xb R) _ _ _ := hw
    exact hw.riz S hr hlk (rfl) d_Bas_load_16 u (by unfold xLd; rw [if_neg h5]) (hM) (by unfold xLd; rw [if_neg h5])
