set_option maxHeartbeats 4000000 in
set_option maxRecDepth 100000 in
theorem c_Cap_isWithin1 (l : Launch) (D : va_G) (tys : List (ClassId × FieldType)) (o : Nat) (t : Bool) (a m : Int32) (b tp : Int64) : Cr l y_Cap_isWithin (wl y_Cap_isWithin b_Cap_isWithin 2 (some .boolean)) (rmL 1) D clz tys [.ref o, .ref o] [(o, capC t a m b tp)] (some (.int (jb (cWith m b tp m b tp)))) := by
  refine Cr.ofF (plainFor_of_name (by decide)) (Nat.le_of_ble_eq_true rfl) ?_
  intro p9 e9 s9 m9 b9 me9 c9 ls S hr hlk hl hw
  obtain ⟨hx, hb, hml, hown, hts⟩ := id S
  have hl : lv_has ls 2 [(0, .ref o), (1, .ref o)] := hl
  refine lv_aload_n hx hb d_Cap_isWithin_0 rfl (lv_at hl 0 rfl) ?_
  refine q_get S hw ly_Cap 0 rfl rfl 3 (by decide) tb_1_56 rfl rfl d_Cap_isWithin_1 ?_
  refine lv_aload_n hx hb d_Cap_isWithin_4 rfl (lv_at hl 1 rfl) ?_
  refine q_get S hw ly_Cap 0 rfl rfl 3 (by decide) tb_1_56 rfl rfl d_Cap_isWithin_5 ?_
  refine q_lc_lt S d_Cap_isWithin_8 d_Cap_isWithin_9 rfl (fun h9 => ?_) (fun h9 => ?_)
  · refine lv_iconst (v := 0) hx hb d_Cap_isWithin_42 (by decide) ?_
    exact rd_i S hr hlk rfl d_Cap_isWithin_43 (by simp only [cWith, h9, ↓reduceIte] <;> rfl)
  · refine lv_aload_n hx hb d_Cap_isWithin_12 rfl (lv_at hl 0 rfl) ?_
    refine q_get S hw ly_Cap 0 rfl rfl 4 (by decide) tb_1_59 rfl rfl d_Cap_isWithin_13 ?_
    refine lv_aload_n hx hb d_Cap_isWithin_16 rfl (lv_at hl 1 rfl) ?_
    refine q_get S hw ly_Cap 0 rfl rfl 4 (by decide) tb_1_59 rfl rfl d_Cap_isWithin_17 ?_
    refine q_lc_gt S d_Cap_isWithin_20 d_Cap_isWithin_21 rfl (fun h21 => ?_) (fun h21 => ?_)
    · refine lv_iconst (v := 0) hx hb d_Cap_isWithin_42 (by decide) ?_
      exact rd_i S hr hlk rfl d_Cap_isWithin_43 (by simp only [cWith, h9, h21, ↓reduceIte] <;> rfl)
    · refine lv_aload_n hx hb d_Cap_isWithin_24 rfl (lv_at hl 0 rfl) ?_
      refine q_cr (q_runV (As := []) (rest := []) S (Cr.one (c_Cap_perms l D tys o t a m b tp) 0 rfl) (cw_v hts tb_2_131 k_Cap_perms rfl rfl ⟨by decide, by decide⟩) hw 0 rfl rfl rfl hl.1 rfl (Nat.le_of_ble_eq_true rfl) d_Cap_isWithin_25 ⟨Nat.zero_le _, Nat.zero_le _⟩) ?_
      refine W.eq (g2 := F0 m9 28 ls [.int (cPerms m)]) rfl ?_
      refine lv_aload_n hx hb d_Cap_isWithin_28 rfl (lv_at hl 1 rfl) ?_
      refine q_cr (q_runV (As := []) (rest := [.int (cPerms m)]) S (Cr.one (c_Cap_perms l D tys o t a m b tp) 0 rfl) (cw_v hts tb_2_131 k_Cap_perms rfl rfl ⟨by decide, by decide⟩) hw 0 rfl rfl rfl hl.1 rfl (Nat.le_of_ble_eq_true rfl) d_Cap_isWithin_29 ⟨Nat.zero_le _, Nat.zero_le _⟩) ?_
      refine W.eq (g2 := F0 m9 32 ls [.int (cPerms m), .int (cPerms m)]) rfl ?_
      refine lv_iconst (v := -1) hx hb d_Cap_isWithin_32 (by decide) ?_
      refine lv_ixor hx hb d_Cap_isWithin_33 ?_
      refine lv_iand hx hb d_Cap_isWithin_34 ?_
      refine lv_if_ne hx hb d_Cap_isWithin_35 rfl (fun h35 => ?_) (fun h35 => ?_)
      · refine lv_iconst (v := 0) hx hb d_Cap_isWithin_42 (by decide) ?_
        exact rd_i S hr hlk rfl d_Cap_isWithin_43 (by simp only [cWith, h9, h21, h35, ↓reduceIte] <;> rfl)
      · refine lv_iconst (v := 1) hx hb d_Cap_isWithin_38 (by decide) ?_
        refine lv_goto hx hb d_Cap_isWithin_39 rfl ?_
        exact rd_i S hr hlk rfl d_Cap_isWithin_43 (by simp only [cWith, h9, h21, h35, ↓reduceIte] <;> rfl)
/-! CapabilityUnit: the words of the class. -/
theorem CW_set {ti : Nat → ClassId} {ad : Nat → Nat} {u : MT} {pi ex de : Nat} {xi xb di db fi fb : Int32} {ob reg : Nat → Nat} {kq : Int32 × Bool × Bool × Int32 × Int64} {ca va fv : Int32} {R : Nat → Cap} {k : Nat} (hk : k < 48) (c : Cap) : (CW ad ti u pi ex de xi xb di db fi fb ob reg kq ca va fv R).set (21 + k) (reg k, capE c) = CW ad ti u pi ex de xi xb di db fi fb ob reg kq ca va fv (va_up R k c) := by
  rw [CW_X, CW_X]
  exact cpool_set rfl hk c
def cWC (d c : Cap) : Bool := cWith d.2.2 (cbase d.2.2 d.2.1) (ctop d.2.2 d.2.1) c.2.2 (cbase c.2.2 c.2.1) (ctop c.2.2 c.2.1)
def isT (d : Cap) : Bool := if d.2.1 < 0 then false else if 12 ≤ d.2.1 then false else cCov (cbase d.2.2 d.2.1) (ctop d.2.2 d.2.1) d.2.1 1
def mUT (d : Cap) (p : Int32) : Bool := if d.1 = false then false else if cOpen d.2.2 = false then false else if cMay d.2.2 p = false then false else isT d
def kSl (c d : Cap) : Bool := if c.1 = false then false else if cOpen c.2.2 = false then false else mUT d 7
def kUn (c d : Cap) : Bool := if c.1 = false then false else if cType c.2.2 = d.2.1 then mUT d 9 else false
def kAn (c : Cap) : Bool := if c.1 = false then false else cOpen c.2.2
def kBd (c d : Cap) : Bool := if c.1 = false then false else if cOpen c.2.2 = false then false else if ctop d.2.2 d.2.1 < cbase d.2.2 d.2.1 then false else cWC d c
def kEn (c : Cap) : Bool := if c.1 = false then false else if cOpen c.2.2 = false then false else cMay c.2.2 1
def bF (c : Cap) : Int64 := cLow c.2.1
def bTo (c : Cap) (n : Int64) : Int64 := lmin (bF c + n) 4294967296
def kBn (c : Cap) (n : Int64) : Bool := if c.1 = false then false else if cOpen c.2.2 = false then false else if cCov (cbase c.2.2 c.2.1) (ctop c.2.2 c.2.1) c.2.1 n = false then false else if 4294967296 < bF c + n then false else true
def kBx (c : Cap) (n : Int64) (x : Bool) : Bool := if kBn c n = false then false else if kEx (bF c) (bTo c n) = true then true else if x = true then false else true
def kQ (f t : Int64) : Int32 × Bool × Bool × Int32 × Int64 := (kBits f t, kEx f t, kIn f t, kE f t, kLen f t)
def uSl (c d : Cap) : Cap := (kSl c d, c.2.1, cSetT c.2.2 (d.2.1 &&& 15))
def uUn (c d : Cap) : Cap := (kUn c d, c.2.1, if cMay d.2.2 0 = true then cSetT c.2.2 15 else cSetP (cSetT c.2.2 15) (cPerms c.2.2 &&& (-2)))
def uAn (c : Cap) (p : Int32) : Cap := (kAn c, c.2.1, cSetP c.2.2 (cPerms c.2.2 &&& p))
def uBd (c d : Cap) : Cap := (kBd c d, d.2.1, if cType d.2.2 = 14 then d.2.2 else cSetT d.2.2 15)
def uEn (c : Cap) : Cap := (kEn c, c.2.1, cSetT c.2.2 14)
def uBn (c : Cap) (n : Int64) (x : Bool) : Cap := (kBx c n x, c.2.1, cSetB c.2.2 (kBits (bF c) (bTo c n)))
def uR (R : Nat → Cap) (c : Cap) (x : Int32) : Nat → Cap := aR (va_up R 37 c) (nRd x)
def rpM (y : Int32) : Int32 := if kIn 0 (cLow y) = false then -1 else (-8 : Int32) <<< (kE 0 (cLow y) &&& 31)
def rpV (y : Int32) (m : Bool) : Int32 := if m = false then (kLen 0 (cLow y)).toInt32 else rpM y
theorem w_isW (l : Launch) (D : va_G) (ti : Nat → ClassId) (ad : Nat → Nat) (u : MT) (pi ex de : Nat) (xi xb di db fi fb : Int32) (ob reg : Nat → Nat) (kq : Int32 × Bool × Bool × Int32 × Int64) (ca va fv : Int32) (R : Nat → Cap) (k j : Nat) (hk : k < 48) (hj : j < 48) : Cr l y_Cap_isWithin (wl y_Cap_isWithin b_Cap_isWithin 2 (some .boolean)) (rmL 1) D clz (ty4 ti) [.ref (reg k), .ref (reg j)] (CW ad ti u pi ex de xi xb di db fi fb ob reg kq ca va fv R) (some (.int (jb (cWC (R k) (R j))))) := by
  by_cases h : k = j
  · subst h
    exact Cr.one (c_Cap_isWithin1 l D (ty4 ti) (reg k) (R k).1 (R k).2.1 (R k).2.2 (cbase (R k).2.2 (R k).2.1) (ctop (R k).2.2 (R k).2.1)) (21 + k) (CW_at hk)
  · exact w_isWithin l D ti ad u pi ex de xi xb di db fi fb ob reg kq ca va fv R k hk j hj h
set_option maxHeartbeats 4000000 in
set_option maxRecDepth 100000 in
theorem c_Cun_move (l : Launch) (D : va_G) (ti : Nat → ClassId) (ad : Nat → Nat) (u : MT) (pi ex de : Nat) (xi xb di db fi fb : Int32) (ob reg : Nat → Nat) (kq : Int32 × Bool × Bool × Int32 × Int64) (ca va fv : Int32) (R : Nat → Cap) (k : Nat) (hk : k < 37) (x : Int32) : Cg l y_Cun_move (wl y_Cun_move b_Cun_move 4 (some .int)) (rmL 3) D clz (ty4 ti) [.ref (ob 3), .ref ex, .ref (reg k), .int x] (CW ad ti u pi ex de xi xb di db fi fb ob reg kq ca va fv R) (fun _ : Unit => some (.int (-1))) (fun _ => (CW ad ti u pi ex de xi xb di db fi fb ob reg kq ca va fv (uR R (cMvC (R k) x) xb))) (fun _ => True) := by
  refine Cg.ofF (plainFor_of_name (by decide)) (Nat.le_of_ble_eq_true rfl) ?_
  intro p9 e9 s9 m9 b9 me9 c9 ls S hr hlk hl hw
  obtain ⟨hx, hb, hml, hown, hts⟩ := id S
  have hl : lv_has ls 4 [(0, .ref (ob 3)), (1, .ref ex), (2, .ref (reg k)), (3, .int x)] := hl
  have hr1 := nR1_lt xb
  have hr2 := nR2_lt xb
  have hrd := nRd_lt xb
  have hk37 : k ≠ 37 := by omega
  refine lv_aload_n hx hb d_Cun_move_0 rfl (lv_at hl 0 rfl) ?_
  refine q_get S hw ly_Cun 19 rfl rfl 0 (by decide) tb_2_56 rfl rfl d_Cun_move_1 ?_
  refine q_get S hw ly_Sta 16 rfl rfl 2 (by decide) tb_1_216 rfl rfl d_Cun_move_4 ?_
  refine lv_aload_n hx hb d_Cun_move_7 rfl (lv_at hl 2 rfl) ?_
  refine q_cg (q_runV (As := [.ref (reg k)]) (rest := []) S (w_become l D ti ad u pi ex de xi xb di db fi fb ob reg kq ca va fv R (37) (by first | decide | omega) (k) (by first | decide | omega) (by first | decide | omega)) (cw_v hts tb_3_226 k_Cap_become rfl rfl ⟨by decide, by decide⟩) hw (21 + (37)) (CW_at (by first | decide | omega)) rfl rfl hl.1 rfl (Nat.le_of_ble_eq_true rfl) d_Cun_move_8 ⟨Nat.zero_le _, Nat.zero_le _⟩) hw (fun z hD => CW_D hD) (fun z9 H locs hp9 hw => ?_)
  refine W.eq (g2 := F0 m9 11 ls []) rfl ?_
  have hw : Lv _ _ _ _ _ (CW ad ti u pi ex de xi xb di db fi fb ob reg kq ca va fv (va_up R (37) (R k))) _ _ _ := hw
  refine lv_aload_n hx hb d_Cun_move_11 rfl (lv_at hl 0 rfl) ?_
  refine q_get S hw ly_Cun 19 rfl rfl 0 (by decide) tb_2_56 rfl rfl d_Cun_move_12 ?_
  refine q_get S hw ly_Sta 16 rfl rfl 2 (by decide) tb_1_216 rfl rfl d_Cun_move_15 ?_
  refine lv_iload_n hx hb d_Cun_move_18 rfl (lv_at hl 3 rfl) ?_
  refine q_cg (q_runV (As := [.int x]) (rest := []) S (w_moveTo l D ti ad u pi ex de xi xb di db fi fb ob reg kq ca va fv (va_up R (37) (R k)) (37) (by first | decide | omega) x) (cw_v hts tb_4_39 k_Cap_moveTo rfl rfl ⟨by decide, by decide⟩) hw (21 + (37)) (CW_at (by first | decide | omega)) rfl rfl hl.1 rfl (Nat.le_of_ble_eq_true rfl) d_Cun_move_19 ⟨Nat.zero_le _, Nat.zero_le _⟩) hw (fun z hD => CW_D hD) (fun z9 H locs hp9 hw => ?_)
  refine W.eq (g2 := F0 m9 22 ls []) rfl ?_
  have hw : Lv _ _ _ _ _ (CW ad ti u pi ex de xi xb di db fi fb ob reg kq ca va fv (va_up (va_up R (37) (R k)) (37) (cMvC ((va_up R (37) (R k)) 37) x))) _ _ _ := hw
  refine lv_aload_n hx hb d_Cun_move_22 rfl (lv_at hl 0 rfl) ?_
  refine q_get S hw ly_Cun 19 rfl rfl 0 (by decide) tb_2_56 rfl rfl d_Cun_move_23 ?_
  refine lv_aload_n hx hb d_Cun_move_26 rfl (lv_at hl 1 rfl) ?_
  refine q_get S hw ly_Ins 14 rfl rfl 3 (by decide) tb_1_155 rfl rfl d_Cun_move_27 ?_
  refine q_cg (q_runV (As := [.int (nI (nRd xb))]) (rest := []) S (c_Sta_answer l D ti ad u pi ex de xi xb di db fi fb ob reg kq ca va fv (va_up (va_up R (37) (R k)) (37) (cMvC ((va_up R (37) (R k)) 37) x)) (nRd xb) (by first | decide | omega)) (cw_v hts tb_3_227 k_Sta_answer rfl rfl ⟨by decide, by decide⟩) hw 16 rfl rfl rfl hl.1 rfl (Nat.le_of_ble_eq_true rfl) d_Cun_move_30 ⟨Nat.zero_le _, Nat.zero_le _⟩) hw (fun z hD => CW_D (qD_same hD rfl)) (fun z9 H locs hp9 hw => ?_)
  refine W.eq (g2 := F0 m9 33 ls [.int (-1 : Int32)]) rfl ?_
  have hw : Lv _ _ _ _ _ (CW ad ti u pi ex de xi xb di db fi fb ob reg kq ca va fv (aR (va_up (va_up R (37) (R k)) (37) (cMvC ((va_up R (37) (R k)) 37) x)) (nRd xb))) _ _ _ := hw
  exact hw.riz S hr hlk (rfl) d_Cun_move_33 () (rfl) (trivial) (by simp [uR, up_up, va_up_self, va_up_ne, cMvC, cTyC, hk37])
set_option maxHeartbeats 4000000 in
set_option maxRecDepth 100000 in
theorem c_Cun_mayUseTypes (l : Launch) (D : va_G) (ti : Nat → ClassId) (ad : Nat → Nat) (u : MT) (pi ex de : Nat) (xi xb di db fi fb : Int32) (ob reg : Nat → Nat) (kq : Int32 × Bool × Bool × Int32 × Int64) (ca va fv : Int32) (R : Nat → Cap) (k : Nat) (hk : k < 37) (p : Int32) : Cr l y_Cun_mayUseTypes (wl y_Cun_mayUseTypes b_Cun_mayUseTypes 3 (some .boolean)) (rmL 2) D clz (ty4 ti) [.ref (reg k), .int p] (CW ad ti u pi ex de xi xb di db fi fb ob reg kq ca va fv R) (some (.int (jb (mUT (R k) p)))) := by
  refine Cr.ofF (plainFor_of_name (by decide)) (Nat.le_of_ble_eq_true rfl) ?_
  intro p9 e9 s9 m9 b9 me9 c9 ls S hr hlk hl hw
  obtain ⟨hx, hb, hml, hown, hts⟩ := id S
  have hl : lv_has ls 3 [(0, .ref (reg k)), (1, .int p)] := hl
  refine lv_aload_n hx hb d_Cun_mayUseTypes_0 rfl (lv_at hl 0 rfl) ?_
  refine q_get S hw ly_Cap (21 + (k)) (CW_at (by first | decide | omega)) rfl 1 (by decide) tb_1_51 rfl rfl d_Cun_mayUseTypes_1 ?_
  refine q_join (pcJ := 33) (st := [.int (jb (isT (R k)))]) (lv' := [(0, .ref (reg k)), (1, .int p)]) (nL := 3) (fun ls hl => ?_) (fun J33 => ?_)
  · refine lv_istore_n (lv' := [(2, .int (jb (isT (R k)))), (0, .ref (reg k)), (1, .int p)]) hx hb d_Cun_mayUseTypes_33 rfl hl (by decide) rfl (fun ls hl => ?_)
    refine lv_aload_n hx hb d_Cun_mayUseTypes_34 rfl (lv_at hl 1 rfl) ?_
    refine q_get S hw ly_Cap (21 + (k)) (CW_at (by first | decide | omega)) rfl 0 (by decide) tb_1_46 rfl rfl d_Cun_mayUseTypes_35 ?_
    refine q_ifz_eq S d_Cun_mayUseTypes_38 rfl (fun h38 => ?_) (fun h38 => ?_)
    · refine lv_iconst (v := 0) hx hb d_Cun_mayUseTypes_64 (by decide) ?_
      exact rd_i S hr hlk rfl d_Cun_mayUseTypes_65 (by simp [mUT, jb, h38])
    · refine lv_aload_n hx hb d_Cun_mayUseTypes_41 rfl (lv_at hl 1 rfl) ?_
      refine q_cr (q_runV (As := []) (rest := []) S (w_isOpen l D ti ad u pi ex de xi xb di db fi fb ob reg kq ca va fv R (k) (by first | decide | omega)) (cw_v hts tb_4_2 k_Cap_isOpen rfl rfl ⟨by decide, by decide⟩) hw (21 + (k)) (CW_at (by first | decide | omega)) rfl rfl hl.1 rfl (Nat.le_of_ble_eq_true rfl) d_Cun_mayUseTypes_42 ⟨Nat.zero_le _, Nat.zero_le _⟩) ?_
      refine W.eq (g2 := F0 m9 45 ls [.int (jb (cOpen (R k).2.2))]) rfl ?_
      refine q_ifz_eq S d_Cun_mayUseTypes_45 rfl (fun h45 => ?_) (fun h45 => ?_)
      · refine lv_iconst (v := 0) hx hb d_Cun_mayUseTypes_64 (by decide) ?_
        exact rd_i S hr hlk rfl d_Cun_mayUseTypes_65 (by simp [mUT, jb, h38, h45])
      · refine lv_aload_n hx hb d_Cun_mayUseTypes_48 rfl (lv_at hl 1 rfl) ?_
        refine lv_iload_n hx hb d_Cun_mayUseTypes_49 rfl (lv_at hl 2 rfl) ?_
        refine q_cr (q_runV (As := [.int p]) (rest := []) S (w_may l D ti ad u pi ex de xi xb di db fi fb ob reg kq ca va fv R (k) (by first | decide | omega) p) (cw_v hts tb_3_224 k_Cap_may rfl rfl ⟨by decide, by decide⟩) hw (21 + (k)) (CW_at (by first | decide | omega)) rfl rfl hl.1 rfl (Nat.le_of_ble_eq_true rfl) d_Cun_mayUseTypes_50 ⟨Nat.zero_le _, Nat.zero_le _⟩) ?_
        refine W.eq (g2 := F0 m9 53 ls [.int (jb (cMay (R k).2.2 p))]) rfl ?_
        refine q_ifz_eq S d_Cun_mayUseTypes_53 rfl (fun h53 => ?_) (fun h53 => ?_)
        · refine lv_iconst (v := 0) hx hb d_Cun_mayUseTypes_64 (by decide) ?_
          exact rd_i S hr hlk rfl d_Cun_mayUseTypes_65 (by simp [mUT, jb, h38, h45, h53])
        · refine lv_iload_n hx hb d_Cun_mayUseTypes_56 rfl (lv_at hl 0 rfl) ?_
          refine q_ifz_eq S d_Cun_mayUseTypes_57 rfl (fun h57 => ?_) (fun h57 => ?_)
          · refine lv_iconst (v := 0) hx hb d_Cun_mayUseTypes_64 (by decide) ?_
            exact rd_i S hr hlk rfl d_Cun_mayUseTypes_65 (by simp [mUT, jb, h38, h45, h53, h57])
          · refine lv_iconst (v := 1) hx hb d_Cun_mayUseTypes_60 (by decide) ?_
            refine lv_goto hx hb d_Cun_mayUseTypes_61 rfl ?_
            exact rd_i S hr hlk rfl d_Cun_mayUseTypes_65 (by simp [mUT, jb, h38, h45, h53, h57])
  · refine lv_if_lt hx hb d_Cun_mayUseTypes_4 rfl (fun h4 => ?_) (fun h4 => ?_)
    · refine lv_iconst (v := 0) hx hb d_Cun_mayUseTypes_32 (by decide) ?_
      refine q_topi (z := (jb (isT (R k)))) (by simp [isT, jb, h4]) ?_
      exact J33 _ (lv_sub (l' := [(0, .ref (reg k)), (1, .int p)]) hl [0, 1] rfl)
    · refine lv_aload_n hx hb d_Cun_mayUseTypes_7 rfl (lv_at hl 0 rfl) ?_
      refine q_get S hw ly_Cap (21 + (k)) (CW_at (by first | decide | omega)) rfl 1 (by decide) tb_1_51 rfl rfl d_Cun_mayUseTypes_8 ?_
      refine lv_bipush (v := 12) hx hb d_Cun_mayUseTypes_11 (by decide) ?_
      refine lv_icmp_ge hx hb d_Cun_mayUseTypes_13 rfl (fun h13 => ?_) (fun h13 => ?_)
      · refine lv_iconst (v := 0) hx hb d_Cun_mayUseTypes_32 (by decide) ?_
        refine q_topi (z := (jb (isT (R k)))) (by simp [isT, jb, h4, h13]) ?_
        exact J33 _ (lv_sub (l' := [(0, .ref (reg k)), (1, .int p)]) hl [0, 1] rfl)
      · refine lv_aload_n hx hb d_Cun_mayUseTypes_16 rfl (lv_at hl 0 rfl) ?_
        refine lv_aload_n hx hb d_Cun_mayUseTypes_17 rfl (lv_at hl 0 rfl) ?_
        refine q_get S hw ly_Cap (21 + (k)) (CW_at (by first | decide | omega)) rfl 1 (by decide) tb_1_51 rfl rfl d_Cun_mayUseTypes_18 ?_
        refine lv_lconst (v := 1) hx hb d_Cun_mayUseTypes_21 (by decide) ?_
        refine q_cr (q_runV (As := [.int ((R k).2.1), .long (1 : Int64)]) (rest := []) S (w_covers l D ti ad u pi ex de xi xb di db fi fb ob reg kq ca va fv R (k) (by first | decide | omega) ((R k).2.1) (1 : Int64)) (cw_v hts tb_4_3 k_Cap_covers rfl rfl ⟨by decide, by decide⟩) hw (21 + (k)) (CW_at (by first | decide | omega)) rfl rfl hl.1 rfl (Nat.le_of_ble_eq_true rfl) d_Cun_mayUseTypes_22 ⟨Nat.zero_le _, Nat.zero_le _⟩) ?_
        refine W.eq (g2 := F0 m9 25 ls [.int (jb (cCov (cbase (R k).2.2 (R k).2.1) (ctop (R k).2.2 (R k).2.1) ((R k).2.1) (1 : Int64)))]) rfl ?_
        refine q_ifz_eq S d_Cun_mayUseTypes_25 rfl (fun h25 => ?_) (fun h25 => ?_)
        · refine lv_iconst (v := 0) hx hb d_Cun_mayUseTypes_32 (by decide) ?_
          refine q_topi (z := (jb (isT (R k)))) (by simp [isT, jb, h4, h13, h25]) ?_
          exact J33 _ (lv_sub (l' := [(0, .ref (reg k)), (1, .int p)]) hl [0, 1] rfl)
        · refine lv_iconst (v := 1) hx hb d_Cun_mayUseTypes_28 (by decide) ?_
          refine lv_goto hx hb d_Cun_mayUseTypes_29 rfl ?_
          refine q_topi (z := (jb (isT (R k)))) (by simp [isT, jb, h4, h13, h25]) ?_
          exact J33 _ (lv_sub (l' := [(0, .ref (reg k)), (1, .int p)]) hl [0, 1] rfl)
set_option maxHeartbeats 4000000 in
set_option maxRecDepth 100000 in
theorem c_Cun_seal (l : Launch) (D : va_G) (ti : Nat → ClassId) (ad : Nat → Nat) (u : MT) (pi ex de : Nat) (xi xb di db fi fb : Int32) (ob reg : Nat → Nat) (kq : Int32 × Bool × Bool × Int32 × Int64) (ca va fv : Int32) (R : Nat → Cap) (k : Nat) (hk : k < 37) (j : Nat) (hj : j < 37) : Cg l y_Cun_seal (wl y_Cun_seal b_Cun_seal 5 (some .int)) (rmL 3) D clz (ty4 ti) [.ref (ob 3), .ref ex, .ref (reg k), .ref (reg j)] (CW ad ti u pi ex de xi xb di db fi fb ob reg kq ca va fv R) (fun _ : Unit => some (.int (-1))) (fun _ => (CW ad ti u pi ex de xi xb di db fi fb ob reg kq ca va fv (uR R (uSl (R k) (R j)) xb))) (fun _ => True) := by
  refine Cg.ofF (plainFor_of_name (by decide)) (Nat.le_of_ble_eq_true rfl) ?_
  intro p9 e9 s9 m9 b9 me9 c9 ls S hr hlk hl hw
  obtain ⟨hx, hb, hml, hown, hts⟩ := id S
  have hl : lv_has ls 5 [(0, .ref (ob 3)), (1, .ref ex), (2, .ref (reg k)), (3, .ref (reg j))] := hl
  have hr1 := nR1_lt xb
  have hr2 := nR2_lt xb
  have hrd := nRd_lt xb
  have hk37 : k ≠ 37 := by omega
  have hj37 : j ≠ 37 := by omega
  refine q_join (pcJ := 28) (st := [.int (jb (kSl (R k) (R j)))]) (lv' := [(0, .ref (ob 3)), (1, .ref ex), (2, .ref (reg k)), (3, .ref (reg j))]) (nL := 5) (fun ls hl => ?_) (fun J28 => ?_)
  · refine lv_istore (lv' := [(4, .int (jb (kSl (R k) (R j)))), (0, .ref (ob 3)), (1, .ref ex), (2, .ref (reg k)), (3, .ref (reg j))]) hx hb d_Cun_seal_28 hl (by decide) rfl (fun ls hl => ?_)
    refine lv_aload_n hx hb d_Cun_seal_30 rfl (lv_at hl 1 rfl) ?_
    refine q_get S hw ly_Cun 19 rfl rfl 0 (by decide) tb_2_56 rfl rfl d_Cun_seal_31 ?_
    refine q_get S hw ly_Sta 16 rfl rfl 2 (by decide) tb_1_216 rfl rfl d_Cun_seal_34 ?_
    refine lv_aload_n hx hb d_Cun_seal_37 rfl (lv_at hl 3 rfl) ?_
    refine q_cg (q_runV (As := [.ref (reg k)]) (rest := []) S (w_become l D ti ad u pi ex de xi xb di db fi fb ob reg kq ca va fv R (37) (by first | decide | omega) (k) (by first | decide | omega) (by first | decide | omega)) (cw_v hts tb_3_226 k_Cap_become rfl rfl ⟨by decide, by decide⟩) hw (21 + (37)) (CW_at (by first | decide | omega)) rfl rfl hl.1 rfl (Nat.le_of_ble_eq_true rfl) d_Cun_seal_38 ⟨Nat.zero_le _, Nat.zero_le _⟩) hw (fun z hD => CW_D hD) (fun z9 H locs hp9 hw => ?_)
    refine W.eq (g2 := F0 m9 41 ls []) rfl ?_
    have hw : Lv _ _ _ _ _ (CW ad ti u pi ex de xi xb di db fi fb ob reg kq ca va fv (va_up R (37) (R k))) _ _ _ := hw
    refine lv_aload_n hx hb d_Cun_seal_41 rfl (lv_at hl 1 rfl) ?_
    refine q_get S hw ly_Cun 19 rfl rfl 0 (by decide) tb_2_56 rfl rfl d_Cun_seal_42 ?_
    refine q_get S hw ly_Sta 16 rfl rfl 2 (by decide) tb_1_216 rfl rfl d_Cun_seal_45 ?_
    refine lv_aload_n hx hb d_Cun_seal_48 rfl (lv_at hl 4 rfl) ?_
    refine q_get S hw ly_Cap (21 + (j)) (CW_at (by first | decide | omega)) rfl 1 (by decide) tb_1_51 rfl rfl d_Cun_seal_49 ?_
    refine lv_bipush (v := 15) hx hb d_Cun_seal_52 (by decide) ?_
    refine lv_iand hx hb d_Cun_seal_54 ?_
    refine q_cg (q_runV (As := [.int ((((va_up R (37) (R k)) j).2.1) &&& (15 : Int32))]) (rest := []) S (w_setType l D ti ad u pi ex de xi xb di db fi fb ob reg kq ca va fv (va_up R (37) (R k)) (37) (by first | decide | omega) ((((va_up R (37) (R k)) j).2.1) &&& (15 : Int32))) (cw_v hts tb_4_15 k_Cap_setType rfl rfl ⟨by decide, by decide⟩) hw (21 + (37)) (CW_at (by first | decide | omega)) rfl rfl hl.1 rfl (Nat.le_of_ble_eq_true rfl) d_Cun_seal_55 ⟨Nat.zero_le _, Nat.zero_le _⟩) hw (fun z hD => CW_D hD) (fun z9 H locs hp9 hw => ?_)
    refine W.eq (g2 := F0 m9 58 ls []) rfl ?_
    have hw : Lv _ _ _ _ _ (CW ad ti u pi ex de xi xb di db fi fb ob reg kq ca va fv (va_up (va_up R (37) (R k)) (37) (cTyC ((va_up R (37) (R k)) 37) ((((va_up R (37) (R k)) j).2.1) &&& (15 : Int32))))) _ _ _ := hw
    refine lv_aload_n hx hb d_Cun_seal_58 rfl (lv_at hl 1 rfl) ?_
    refine q_get S hw ly_Cun 19 rfl rfl 0 (by decide) tb_2_56 rfl rfl d_Cun_seal_59 ?_
    refine q_get S hw ly_Sta 16 rfl rfl 2 (by decide) tb_1_216 rfl rfl d_Cun_seal_62 ?_
    refine lv_iload hx hb d_Cun_seal_65 (lv_at hl 0 rfl) ?_
    refine q_put (v := .int (jb (kSl (R k) (R j)))) S hw ly_Cap t_Cap t_Cap_ok n_Cap (21 + (37)) (CW_at (by first | decide | omega)) rfl 0 (by decide) tb_1_46 rfl rfl (jb_nar (kSl (R k) (R j))) (jb_fit (kSl (R k) (R j))) (Nat.le_of_ble_eq_true rfl) d_Cun_seal_67 (fun H locs hw => ?_)
    have hw : Lv _ _ _ _ _ (CW ad ti u pi ex de xi xb di db fi fb ob reg kq ca va fv (va_up (va_up (va_up R (37) (R k)) (37) (cTyC ((va_up R (37) (R k)) 37) ((((va_up R (37) (R k)) j).2.1) &&& (15 : Int32)))) (37) (((kSl (R k) (R j)), ((va_up (va_up R (37) (R k)) (37) (cTyC ((va_up R (37) (R k)) 37) ((((va_up R (37) (R k)) j).2.1) &&& (15 : Int32)))) 37).2.1, ((va_up (va_up R (37) (R k)) (37) (cTyC ((va_up R (37) (R k)) 37) ((((va_up R (37) (R k)) j).2.1) &&& (15 : Int32)))) 37).2.2) : Cap))) _ _ _ := hw.same (CW_set (by first | decide | omega) (((kSl (R k) (R j)), ((va_up (va_up R (37) (R k)) (37) (cTyC ((va_up R (37) (R k)) 37) ((((va_up R (37) (R k)) j).2.1) &&& (15 : Int32)))) 37).2.1, ((va_up (va_up R (37) (R k)) (37) (cTyC ((va_up R (37) (R k)) 37) ((((va_up R (37) (R k)) j).2.1) &&& (15 : Int32)))) 37).2.2) : Cap))
    refine lv_aload_n hx hb d_Cun_seal_70 rfl (lv_at hl 1 rfl) ?_
    refine q_get S hw ly_Cun 19 rfl rfl 0 (by decide) tb_2_56 rfl rfl d_Cun_seal_71 ?_
    refine lv_aload_n hx hb d_Cun_seal_74 rfl (lv_at hl 2 rfl) ?_
    refine q_get S hw ly_Ins 14 rfl rfl 3 (by decide) tb_1_155 rfl rfl d_Cun_seal_75 ?_
    refine q_cg (q_runV (As := [.int (nI (nRd xb))]) (rest := []) S (c_Sta_answer l D ti ad u pi ex de xi xb di db fi fb ob reg kq ca va fv (va_up (va_up (va_up R (37) (R k)) (37) (cTyC ((va_up R (37) (R k)) 37) ((((va_up R (37) (R k)) j).2.1) &&& (15 : Int32)))) (37) (((kSl (R k) (R j)), ((va_up (va_up R (37) (R k)) (37) (cTyC ((va_up R (37) (R k)) 37) ((((va_up R (37) (R k)) j).2.1) &&& (15 : Int32)))) 37).2.1, ((va_up (va_up R (37) (R k)) (37) (cTyC ((va_up R (37) (R k)) 37) ((((va_up R (37) (R k)) j).2.1) &&& (15 : Int32)))) 37).2.2) : Cap)) (nRd xb) (by first | decide | omega)) (cw_v hts tb_3_227 k_Sta_answer rfl rfl ⟨by decide, by decide⟩) hw 16 rfl rfl rfl hl.1 rfl (Nat.le_of_ble_eq_true rfl) d_Cun_seal_78 ⟨Nat.zero_le _, Nat.zero_le _⟩) hw (fun z hD => CW_D (qD_same hD rfl)) (fun z9 H locs hp9 hw => ?_)
    refine W.eq (g2 := F0 m9 81 ls [.int (-1 : Int32)]) rfl ?_
    have hw : Lv _ _ _ _ _ (CW ad ti u pi ex de xi xb di db fi fb ob reg kq ca va fv (aR (va_up (va_up (va_up R (37) (R k)) (37) (cTyC ((va_up R (37) (R k)) 37) ((((va_up R (37) (R k)) j).2.1) &&& (15 : Int32)))) (37) (((kSl (R k) (R j)), ((va_up (va_up R (37) (R k)) (37) (cTyC ((va_up R (37) (R k)) 37) ((((va_up R (37) (R k)) j).2.1) &&& (15 : Int32)))) 37).2.1, ((va_up (va_up R (37) (R k)) (37) (cTyC ((va_up R (37) (R k)) 37) ((((va_up R (37) (R k)) j).2.1) &&& (15 : Int32)))) 37).2.2) : Cap)) (nRd xb))) _ _ _ := hw
    exact hw.riz S hr hlk (rfl) d_Cun_seal_81 () (rfl) (trivial) (by simp [uR, up_up, va_up_self, va_up_ne, cMvC, cTyC, hk37, hj37, uSl])
  · refine lv_aload_n hx hb d_Cun_seal_0 rfl (lv_at hl 2 rfl) ?_
    refine q_get S hw ly_Cap (21 + (k)) (CW_at (by first | decide | omega)) rfl 0 (by decide) tb_1_46 rfl rfl d_Cun_seal_1 ?_
    refine q_ifz_eq S d_Cun_seal_4 rfl (fun h4 => ?_) (fun h4 => ?_)
    · refine lv_iconst (v := 0) hx hb d_Cun_seal_27 (by decide) ?_
      refine q_topi (z := (jb (kSl (R k) (R j)))) (by simp [kSl, jb, h4]) ?_
      exact J28 _ (lv_sub (l' := [(0, .ref (ob 3)), (1, .ref ex), (2, .ref (reg k)), (3, .ref (reg j))]) hl [0, 1, 2, 3] rfl)
    · refine lv_aload_n hx hb d_Cun_seal_7 rfl (lv_at hl 2 rfl) ?_
      refine q_cr (q_runV (As := []) (rest := []) S (w_isOpen l D ti ad u pi ex de xi xb di db fi fb ob reg kq ca va fv R (k) (by first | decide | omega)) (cw_v hts tb_4_2 k_Cap_isOpen rfl rfl ⟨by decide, by decide⟩) hw (21 + (k)) (CW_at (by first | decide | omega)) rfl rfl hl.1 rfl (Nat.le_of_ble_eq_true rfl) d_Cun_seal_8 ⟨Nat.zero_le _, Nat.zero_le _⟩) ?_
      refine W.eq (g2 := F0 m9 11 ls [.int (jb (cOpen (R k).2.2))]) rfl ?_
      refine q_ifz_eq S d_Cun_seal_11 rfl (fun h11 => ?_) (fun h11 => ?_)
      · refine lv_iconst (v := 0) hx hb d_Cun_seal_27 (by decide) ?_
        refine q_topi (z := (jb (kSl (R k) (R j)))) (by simp [kSl, jb, h4, h11]) ?_
        exact J28 _ (lv_sub (l' := [(0, .ref (ob 3)), (1, .ref ex), (2, .ref (reg k)), (3, .ref (reg j))]) hl [0, 1, 2, 3] rfl)
      · refine lv_aload_n hx hb d_Cun_seal_14 rfl (lv_at hl 3 rfl) ?_
        refine lv_bipush (v := 7) hx hb d_Cun_seal_15 (by decide) ?_
        refine q_cr (q_runS (As := [.ref (reg j), .int (7 : Int32)]) (rest := []) S (c_Cun_mayUseTypes l D ti ad u pi ex de xi xb di db fi fb ob reg kq ca va fv R (j) (by first | decide | omega) (7 : Int32)) (cw_s hts tb_4_12 k_Cun_mayUseTypes rfl rfl ⟨by decide, by decide⟩) hw rfl hl.1 rfl (Nat.le_of_ble_eq_true rfl) d_Cun_seal_17 ⟨Nat.zero_le _, Nat.zero_le _⟩) ?_
        refine W.eq (g2 := F0 m9 20 ls [.int (jb (mUT (R j) (7 : Int32)))]) rfl ?_
        refine q_ifz_eq S d_Cun_seal_20 rfl (fun h20 => ?_) (fun h20 => ?_)
        · refine lv_iconst (v := 0) hx hb d_Cun_seal_27 (by decide) ?_
          refine q_topi (z := (jb (kSl (R k) (R j)))) (by simp [kSl, jb, h4, h11, h20]) ?_
          exact J28 _ (lv_sub (l' := [(0, .ref (ob 3)), (1, .ref ex), (2, .ref (reg k)), (3, .ref (reg j))]) hl [0, 1, 2, 3] rfl)
        · refine lv_iconst (v := 1) hx hb d_Cun_seal_23 (by decide) ?_
          refine lv_goto hx hb d_Cun_seal_24 rfl ?_
          refine q_topi (z := (jb (kSl (R k) (R j)))) (by simp [kSl, jb, h4, h11, h20]) ?_
          exact J28 _ (lv_sub (l' := [(0, .ref (ob 3)), (1, .ref ex), (2, .ref (reg k)), (3, .ref (reg j))]) hl [0, 1, 2, 3] rfl)
set_option maxHeartbeats 4000000 in
set_option maxRecDepth 100000 in
theorem c_Cun_unseal (l : Launch) (D : va_G) (ti : Nat → ClassId) (ad : Nat → Nat) (u : MT) (pi ex de : Nat) (xi xb di db fi fb : Int32) (ob reg : Nat → Nat) (kq : Int32 × Bool × Bool × Int32 × Int64) (ca va fv : Int32) (R : Nat → Cap) (k : Nat) (hk : k < 37) (j : Nat) (hj : j < 37) : Cg l y_Cun_unseal (wl y_Cun_unseal b_Cun_unseal 5 (some .int)) (rmL 3) D clz (ty4 ti) [.ref (ob 3), .ref ex, .ref (reg k), .ref (reg j)] (CW ad ti u pi ex de xi xb di db fi fb ob reg kq ca va fv R) (fun _ : Unit => some (.int (-1))) (fun _ => (CW ad ti u pi ex de xi xb di db fi fb ob reg kq ca va fv (uR R (uUn (R k) (R j)) xb))) (fun _ => True) := by
  refine Cg.ofF (plainFor_of_name (by decide)) (Nat.le_of_ble_eq_true rfl) ?_
  intro p9 e9 s9 m9 b9 me9 c9 ls S hr hlk hl hw
  obtain ⟨hx, hb, hml, hown, hts⟩ := id S
  have hl : lv_has ls 5 [(0, .ref (ob 3)), (1, .ref ex), (2, .ref (reg k)), (3, .ref (reg j))] := hl
  have hr1 := nR1_lt xb
  have hr2 := nR2_lt xb
  have hrd := nRd_lt xb
  have hk37 : k ≠ 37 := by omega
  have hj37 : j ≠ 37 := by omega
  refine q_join (pcJ := 32) (st := [.int (jb (kUn (R k) (R j)))]) (lv' := [(0, .ref (ob 3)), (1, .ref ex), (2, .ref (reg k)), (3, .ref (reg j))]) (nL := 5) (fun ls hl => ?_) (fun J32 => ?_)
  · refine lv_istore (lv' := [(4, .int (jb (kUn (R k) (R j)))), (0, .ref (ob 3)), (1, .ref ex), (2, .ref (reg k)), (3, .ref (reg j))]) hx hb d_Cun_unseal_32 hl (by decide) rfl (fun ls hl => ?_)
    refine lv_aload_n hx hb d_Cun_unseal_34 rfl (lv_at hl 1 rfl) ?_
    refine q_get S hw ly_Cun 19 rfl rfl 0 (by decide) tb_2_56 rfl rfl d_Cun_unseal_35 ?_
    refine q_get S hw ly_Sta 16 rfl rfl 2 (by decide) tb_1_216 rfl rfl d_Cun_unseal_38 ?_
    refine lv_aload_n hx hb d_Cun_unseal_41 rfl (lv_at hl 3 rfl) ?_
    refine q_cg (q_runV (As := [.ref (reg k)]) (rest := []) S (w_become l D ti ad u pi ex de xi xb di db fi fb ob reg kq ca va fv R (37) (by first | decide | omega) (k) (by first | decide | omega) (by first | decide | omega)) (cw_v hts tb_3_226 k_Cap_become rfl rfl ⟨by decide, by decide⟩) hw (21 + (37)) (CW_at (by first | decide | omega)) rfl rfl hl.1 rfl (Nat.le_of_ble_eq_true rfl) d_Cun_unseal_42 ⟨Nat.zero_le _, Nat.zero_le _⟩) hw (fun z hD => CW_D hD) (fun z9 H locs hp9 hw => ?_)
    refine W.eq (g2 := F0 m9 45 ls []) rfl ?_
    have hw : Lv _ _ _ _ _ (CW ad ti u pi ex de xi xb di db fi fb ob reg kq ca va fv (va_up R (37) (R k))) _ _ _ := hw
    refine lv_aload_n hx hb d_Cun_unseal_45 rfl (lv_at hl 1 rfl) ?_
    refine q_get S hw ly_Cun 19 rfl rfl 0 (by decide) tb_2_56 rfl rfl d_Cun_unseal_46 ?_
    refine q_get S hw ly_Sta 16 rfl rfl 2 (by decide) tb_1_216 rfl rfl d_Cun_unseal_49 ?_
    refine lv_bipush (v := 15) hx hb d_Cun_unseal_52 (by decide) ?_
    refine q_cg (q_runV (As := [.int (15 : Int32)]) (rest := []) S (w_setType l D ti ad u pi ex de xi xb di db fi fb ob reg kq ca va fv (va_up R (37) (R k)) (37) (by first | decide | omega) (15 : Int32)) (cw_v hts tb_4_15 k_Cap_setType rfl rfl ⟨by decide, by decide⟩) hw (21 + (37)) (CW_at (by first | decide | omega)) rfl rfl hl.1 rfl (Nat.le_of_ble_eq_true rfl) d_Cun_unseal_54 ⟨Nat.zero_le _, Nat.zero_le _⟩) hw (fun z hD => CW_D hD) (fun z9 H locs hp9 hw => ?_)
    refine W.eq (g2 := F0 m9 57 ls []) rfl ?_
    have hw : Lv _ _ _ _ _ (CW ad ti u pi ex de xi xb di db fi fb ob reg kq ca va fv (va_up (va_up R (37) (R k)) (37) (cTyC ((va_up R (37) (R k)) 37) (15 : Int32)))) _ _ _ := hw
    refine lv_aload_n hx hb d_Cun_unseal_57 rfl (lv_at hl 4 rfl) ?_
    refine lv_iconst (v := 0) hx hb d_Cun_unseal_58 (by decide) ?_
    refine q_cr (q_runV (As := [.int (0 : Int32)]) (rest := []) S (w_may l D ti ad u pi ex de xi xb di db fi fb ob reg kq ca va fv (va_up (va_up R (37) (R k)) (37) (cTyC ((va_up R (37) (R k)) 37) (15 : Int32))) (j) (by first | decide | omega) (0 : Int32)) (cw_v hts tb_3_224 k_Cap_may rfl rfl ⟨by decide, by decide⟩) hw (21 + (j)) (CW_at (by first | decide | omega)) rfl rfl hl.1 rfl (Nat.le_of_ble_eq_true rfl) d_Cun_unseal_59 ⟨Nat.zero_le _, Nat.zero_le _⟩) ?_
    refine W.eq (g2 := F0 m9 62 ls [.int (jb (cMay ((va_up (va_up R (37) (R k)) (37) (cTyC ((va_up R (37) (R k)) 37) (15 : Int32))) j).2.2 (0 : Int32)))]) rfl ?_
    refine q_ifz_ne S d_Cun_unseal_62 rfl (fun h62 => ?_) (fun h62 => ?_)
    · refine lv_aload_n hx hb d_Cun_unseal_82 rfl (lv_at hl 1 rfl) ?_
      refine q_get S hw ly_Cun 19 rfl rfl 0 (by decide) tb_2_56 rfl rfl d_Cun_unseal_83 ?_
      refine q_get S hw ly_Sta 16 rfl rfl 2 (by decide) tb_1_216 rfl rfl d_Cun_unseal_86 ?_
      refine lv_iload hx hb d_Cun_unseal_89 (lv_at hl 0 rfl) ?_
      refine q_put (v := .int (jb (kUn (R k) (R j)))) S hw ly_Cap t_Cap t_Cap_ok n_Cap (21 + (37)) (CW_at (by first | decide | omega)) rfl 0 (by decide) tb_1_46 rfl rfl (jb_nar (kUn (R k) (R j))) (jb_fit (kUn (R k) (R j))) (Nat.le_of_ble_eq_true rfl) d_Cun_unseal_91 (fun H locs hw => ?_)
      have hw : Lv _ _ _ _ _ (CW ad ti u pi ex de xi xb di db fi fb ob reg kq ca va fv (va_up (va_up (va_up R (37) (R k)) (37) (cTyC ((va_up R (37) (R k)) 37) (15 : Int32))) (37) (((kUn (R k) (R j)), ((va_up (va_up R (37) (R k)) (37) (cTyC ((va_up R (37) (R k)) 37) (15 : Int32))) 37).2.1, ((va_up (va_up R (37) (R k)) (37) (cTyC ((va_up R (37) (R k)) 37) (15 : Int32))) 37).2.2) : Cap))) _ _ _ := hw.same (CW_set (by first | decide | omega) (((kUn (R k) (R j)), ((va_up (va_up R (37) (R k)) (37) (cTyC ((va_up R (37) (R k)) 37) (15 : Int32))) 37).2.1, ((va_up (va_up R (37) (R k)) (37) (cTyC ((va_up R (37) (R k)) 37) (15 : Int32))) 37).2.2) : Cap))
      refine lv_aload_n hx hb d_Cun_unseal_94 rfl (lv_at hl 1 rfl) ?_
      refine q_get S hw ly_Cun 19 rfl rfl 0 (by decide) tb_2_56 rfl rfl d_Cun_unseal_95 ?_
      refine lv_aload_n hx hb d_Cun_unseal_98 rfl (lv_at hl 2 rfl) ?_
      refine q_get S hw ly_Ins 14 rfl rfl 3 (by decide) tb_1_155 rfl rfl d_Cun_unseal_99 ?_
      refine q_cg (q_runV (As := [.int (nI (nRd xb))]) (rest := []) S (c_Sta_answer l D ti ad u pi ex de xi xb di db fi fb ob reg kq ca va fv (va_up (va_up (va_up R (37) (R k)) (37) (cTyC ((va_up R (37) (R k)) 37) (15 : Int32))) (37) (((kUn (R k) (R j)), ((va_up (va_up R (37) (R k)) (37) (cTyC ((va_up R (37) (R k)) 37) (15 : Int32))) 37).2.1, ((va_up (va_up R (37) (R k)) (37) (cTyC ((va_up R (37) (R k)) 37) (15 : Int32))) 37).2.2) : Cap)) (nRd xb) (by first | decide | omega)) (cw_v hts tb_3_227 k_Sta_answer rfl rfl ⟨by decide, by decide⟩) hw 16 rfl rfl rfl hl.1 rfl (Nat.le_of_ble_eq_true rfl) d_Cun_unseal_102 ⟨Nat.zero_le _, Nat.zero_le _⟩) hw (fun z hD => CW_D (qD_same hD rfl)) (fun z9 H locs hp9 hw => ?_)
      refine W.eq (g2 := F0 m9 105 ls [.int (-1 : Int32)]) rfl ?_
      have hw : Lv _ _ _ _ _ (CW ad ti u pi ex de xi xb di db fi fb ob reg kq ca va fv (aR (va_up (va_up (va_up R (37) (R k)) (37) (cTyC ((va_up R (37) (R k)) 37) (15 : Int32))) (37) (((kUn (R k) (R j)), ((va_up (va_up R (37) (R k)) (37) (cTyC ((va_up R (37) (R k)) 37) (15 : Int32))) 37).2.1, ((va_up (va_up R (37) (R k)) (37) (cTyC ((va_up R (37) (R k)) 37) (15 : Int32))) 37).2.2) : Cap)) (nRd xb))) _ _ _ := hw
      exact hw.riz S hr hlk (rfl) d_Cun_unseal_105 () (rfl) (trivial) (by rw [va_up_ne _ _ hj37, va_up_ne _ _ hj37] at h62; simp [uUn, uR, up_up, va_up_self, va_up_ne, cMvC, cTyC, hk37, hj37, h62])
    · refine lv_aload_n hx hb d_Cun_unseal_65 rfl (lv_at hl 1 rfl) ?_
      refine q_get S hw ly_Cun 19 rfl rfl 0 (by decide) tb_2_56 rfl rfl d_Cun_unseal_66 ?_
      refine q_get S hw ly_Sta 16 rfl rfl 2 (by decide) tb_1_216 rfl rfl d_Cun_unseal_69 ?_
      refine lv_aload_n hx hb d_Cun_unseal_72 rfl (lv_at hl 3 rfl) ?_
      refine q_cr (q_runV (As := []) (rest := [.ref (reg 37)]) S (w_perms l D ti ad u pi ex de xi xb di db fi fb ob reg kq ca va fv (va_up (va_up R (37) (R k)) (37) (cTyC ((va_up R (37) (R k)) 37) (15 : Int32))) (k) (by first | decide | omega)) (cw_v hts tb_4_25 k_Cap_perms rfl rfl ⟨by decide, by decide⟩) hw (21 + (k)) (CW_at (by first | decide | omega)) rfl rfl hl.1 rfl (Nat.le_of_ble_eq_true rfl) d_Cun_unseal_73 ⟨Nat.zero_le _, Nat.zero_le _⟩) ?_
      refine W.eq (g2 := F0 m9 76 ls [.int (cPerms ((va_up (va_up R (37) (R k)) (37) (cTyC ((va_up R (37) (R k)) 37) (15 : Int32))) k).2.2), .ref (reg 37)]) rfl ?_
      refine lv_bipush (v := -2) hx hb d_Cun_unseal_76 (by decide) ?_
      refine lv_iand hx hb d_Cun_unseal_78 ?_
      refine q_cg (q_runV (As := [.int ((cPerms ((va_up (va_up R (37) (R k)) (37) (cTyC ((va_up R (37) (R k)) 37) (15 : Int32))) k).2.2) &&& (-2 : Int32))]) (rest := []) S (w_setPerms l D ti ad u pi ex de xi xb di db fi fb ob reg kq ca va fv (va_up (va_up R (37) (R k)) (37) (cTyC ((va_up R (37) (R k)) 37) (15 : Int32))) (37) (by first | decide | omega) ((cPerms ((va_up (va_up R (37) (R k)) (37) (cTyC ((va_up R (37) (R k)) 37) (15 : Int32))) k).2.2) &&& (-2 : Int32))) (cw_v hts tb_4_26 k_Cap_setPerms rfl rfl ⟨by decide, by decide⟩) hw (21 + (37)) (CW_at (by first | decide | omega)) rfl rfl hl.1 rfl (Nat.le_of_ble_eq_true rfl) d_Cun_unseal_79 ⟨Nat.zero_le _, Nat.zero_le _⟩) hw (fun z hD => CW_D hD) (fun z9 H locs hp9 hw => ?_)
      refine W.eq (g2 := F0 m9 82 ls []) rfl ?_
      have hw : Lv _ _ _ _ _ (CW ad ti u pi ex de xi xb di db fi fb ob reg kq ca va fv (va_up (va_up (va_up R (37) (R k)) (37) (cTyC ((va_up R (37) (R k)) 37) (15 : Int32))) (37) ((((va_up (va_up R (37) (R k)) (37) (cTyC ((va_up R (37) (R k)) 37) (15 : Int32))) 37).1, ((va_up (va_up R (37) (R k)) (37) (cTyC ((va_up R (37) (R k)) 37) (15 : Int32))) 37).2.1, cSetP ((va_up (va_up R (37) (R k)) (37) (cTyC ((va_up R (37) (R k)) 37) (15 : Int32))) 37).2.2 ((cPerms ((va_up (va_up R (37) (R k)) (37) (cTyC ((va_up R (37) (R k)) 37) (15 : Int32))) k).2.2) &&& (-2 : Int32))) : Cap))) _ _ _ := hw
      refine lv_aload_n hx hb d_Cun_unseal_82 rfl (lv_at hl 1 rfl) ?_
      refine q_get S hw ly_Cun 19 rfl rfl 0 (by decide) tb_2_56 rfl rfl d_Cun_unseal_83 ?_
      refine q_get S hw ly_Sta 16 rfl rfl 2 (by decide) tb_1_216 rfl rfl d_Cun_unseal_86 ?_
      refine lv_iload hx hb d_Cun_unseal_89 (lv_at hl 0 rfl) ?_
      refine q_put (v := .int (jb (kUn (R k) (R j)))) S hw ly_Cap t_Cap t_Cap_ok n_Cap (21 + (37)) (CW_at (by first | decide | omega)) rfl 0 (by decide) tb_1_46 rfl rfl (jb_nar (kUn (R k) (R j))) (jb_fit (kUn (R k) (R j))) (Nat.le_of_ble_eq_true rfl) d_Cun_unseal_91 (fun H locs hw => ?_)
      have hw : Lv _ _ _ _ _ (CW ad ti u pi ex de xi xb di db fi fb ob reg kq ca va fv (va_up (va_up (va_up (va_up R (37) (R k)) (37) (cTyC ((va_up R (37) (R k)) 37) (15 : Int32))) (37) ((((va_up (va_up R (37) (R k)) (37) (cTyC ((va_up R (37) (R k)) 37) (15 : Int32))) 37).1, ((va_up (va_up R (37) (R k)) (37) (cTyC ((va_up R (37) (R k)) 37) (15 : Int32))) 37).2.1, cSetP ((va_up (va_up R (37) (R k)) (37) (cTyC ((va_up R (37) (R k)) 37) (15 : Int32))) 37).2.2 ((cPerms ((va_up (va_up R (37) (R k)) (37) (cTyC ((va_up R (37) (R k)) 37) (15 : Int32))) k).2.2) &&& (-2 : Int32))) : Cap)) (37) (((kUn (R k) (R j)), ((va_up (va_up (va_up R (37) (R k)) (37) (cTyC ((va_up R (37) (R k)) 37) (15 : Int32))) (37) ((((va_up (va_up R (37) (R k)) (37) (cTyC ((va_up R (37) (R k)) 37) (15 : Int32))) 37).1, ((va_up (va_up R (37) (R k)) (37) (cTyC ((va_up R (37) (R k)) 37) (15 : Int32))) 37).2.1, cSetP ((va_up (va_up R (37) (R k)) (37) (cTyC ((va_up R (37) (R k)) 37) (15 : Int32))) 37).2.2 ((cPerms ((va_up (va_up R (37) (R k)) (37) (cTyC ((va_up R (37) (R k)) 37) (15 : Int32))) k).2.2) &&& (-2 : Int32))) : Cap)) 37).2.1, ((va_up (va_up (va_up R (37) (R k)) (37) (cTyC ((va_up R (37) (R k)) 37) (15 : Int32))) (37) ((((va_up (va_up R (37) (R k)) (37) (cTyC ((va_up R (37) (R k)) 37) (15 : Int32))) 37).1, ((va_up (va_up R (37) (R k)) (37) (cTyC ((va_up R (37) (R k)) 37) (15 : Int32))) 37).2.1, cSetP ((va_up (va_up R (37) (R k)) (37) (cTyC ((va_up R (37) (R k)) 37) (15 : Int32))) 37).2.2 ((cPerms ((va_up (va_up R (37) (R k)) (37) (cTyC ((va_up R (37) (R k)) 37) (15 : Int32))) k).2.2) &&& (-2 : Int32))) : Cap)) 37).2.2) : Cap))) _ _ _ := hw.same (CW_set (by first | decide | omega) (((kUn (R k) (R j)), ((va_up (va_up (va_up R (37) (R k)) (37) (cTyC ((va_up R (37) (R k)) 37) (15 : Int32))) (37) ((((va_up (va_up R (37) (R k)) (37) (cTyC ((va_up R (37) (R k)) 37) (15 : Int32))) 37).1, ((va_up (va_up R (37) (R k)) (37) (cTyC ((va_up R (37) (R k)) 37) (15 : Int32))) 37).2.1, cSetP ((va_up (va_up R (37) (R k)) (37) (cTyC ((va_up R (37) (R k)) 37) (15 : Int32))) 37).2.2 ((cPerms ((va_up (va_up R (37) (R k)) (37) (cTyC ((va_up R (37) (R k)) 37) (15 : Int32))) k).2.2) &&& (-2 : Int32))) : Cap)) 37).2.1, ((va_up (va_up (va_up R (37) (R k)) (37) (cTyC ((va_up R (37) (R k)) 37) (15 : Int32))) (37) ((((va_up (va_up R (37) (R k)) (37) (cTyC ((va_up R (37) (R k)) 37) (15 : Int32))) 37).1, ((va_up (va_up R (37) (R k)) (37) (cTyC ((va_up R (37) (R k)) 37) (15 : Int32))) 37).2.1, cSetP ((va_up (va_up R (37) (R k)) (37) (cTyC ((va_up R (37) (R k)) 37) (15 : Int32))) 37).2.2 ((cPerms ((va_up (va_up R (37) (R k)) (37) (cTyC ((va_up R (37) (R k)) 37) (15 : Int32))) k).2.2) &&& (-2 : Int32))) : Cap)) 37).2.2) : Cap))
      refine lv_aload_n hx hb d_Cun_unseal_94 rfl (lv_at hl 1 rfl) ?_
      refine q_get S hw ly_Cun 19 rfl rfl 0 (by decide) tb_2_56 rfl rfl d_Cun_unseal_95 ?_
      refine lv_aload_n hx hb d_Cun_unseal_98 rfl (lv_at hl 2 rfl) ?_
      refine q_get S hw ly_Ins 14 rfl rfl 3 (by decide) tb_1_155 rfl rfl d_Cun_unseal_99 ?_
      refine q_cg (q_runV (As := [.int (nI (nRd xb))]) (rest := []) S (c_Sta_answer l D ti ad u pi ex de xi xb di db fi fb ob reg kq ca va fv (va_up (va_up (va_up (va_up R (37) (R k)) (37) (cTyC ((va_up R (37) (R k)) 37) (15 : Int32))) (37) ((((va_up (va_up R (37) (R k)) (37) (cTyC ((va_up R (37) (R k)) 37) (15 : Int32))) 37).1, ((va_up (va_up R (37) (R k)) (37) (cTyC ((va_up R (37) (R k)) 37) (15 : Int32))) 37).2.1, cSetP ((va_up (va_up R (37) (R k)) (37) (cTyC ((va_up R (37) (R k)) 37) (15 : Int32))) 37).2.2 ((cPerms ((va_up (va_up R (37) (R k)) (37) (cTyC ((va_up R (37) (R k)) 37) (15 : Int32))) k).2.2) &&& (-2 : Int32))) : Cap)) (37) (((kUn (R k) (R j)), ((va_up (va_up (va_up R (37) (R k)) (37) (cTyC ((va_up R (37) (R k)) 37) (15 : Int32))) (37) ((((va_up (va_up R (37) (R k)) (37) (cTyC ((va_up R (37) (R k)) 37) (15 : Int32))) 37).1, ((va_up (va_up R (37) (R k)) (37) (cTyC ((va_up R (37) (R k)) 37) (15 : Int32))) 37).2.1, cSetP ((va_up (va_up R (37) (R k)) (37) (cTyC ((va_up R (37) (R k)) 37) (15 : Int32))) 37).2.2 ((cPerms ((va_up (va_up R (37) (R k)) (37) (cTyC ((va_up R (37) (R k)) 37) (15 : Int32))) k).2.2) &&& (-2 : Int32))) : Cap)) 37).2.1, ((va_up (va_up (va_up R (37) (R k)) (37) (cTyC ((va_up R (37) (R k)) 37) (15 : Int32))) (37) ((((va_up (va_up R (37) (R k)) (37) (cTyC ((va_up R (37) (R k)) 37) (15 : Int32))) 37).1, ((va_up (va_up R (37) (R k)) (37) (cTyC ((va_up R (37) (R k)) 37) (15 : Int32))) 37).2.1, cSetP ((va_up (va_up R (37) (R k)) (37) (cTyC ((va_up R (37) (R k)) 37) (15 : Int32))) 37).2.2 ((cPerms ((va_up (va_up R (37) (R k)) (37) (cTyC ((va_up R (37) (R k)) 37) (15 : Int32))) k).2.2) &&& (-2 : Int32))) : Cap)) 37).2.2) : Cap)) (nRd xb) (by first | decide | omega)) (cw_v hts tb_3_227 k_Sta_answer rfl rfl ⟨by decide, by decide⟩) hw 16 rfl rfl rfl hl.1 rfl (Nat.le_of_ble_eq_true rfl) d_Cun_unseal_102 ⟨Nat.zero_le _, Nat.zero_le _⟩) hw (fun z hD => CW_D (qD_same hD rfl)) (fun z9 H locs hp9 hw => ?_)
      refine W.eq (g2 := F0 m9 105 ls [.int (-1 : Int32)]) rfl ?_
      have hw : Lv _ _ _ _ _ (CW ad ti u pi ex de xi xb di db fi fb ob reg kq ca va fv (aR (va_up (va_up (va_up (va_up R (37) (R k)) (37) (cTyC ((va_up R (37) (R k)) 37) (15 : Int32))) (37) ((((va_up (va_up R (37) (R k)) (37) (cTyC ((va_up R (37) (R k)) 37) (15 : Int32))) 37).1, ((va_up (va_up R (37) (R k)) (37) (cTyC ((va_up R (37) (R k)) 37) (15 : Int32))) 37).2.1, cSetP ((va_up (va_up R (37) (R k)) (37) (cTyC ((va_up R (37) (R k)) 37) (15 : Int32))) 37).2.2 ((cPerms ((va_up (va_up R (37) (R k)) (37) (cTyC ((va_up R (37) (R k)) 37) (15 : Int32))) k).2.2) &&& (-2 : Int32))) : Cap)) (37) (((kUn (R k) (R j)), ((va_up (va_up (va_up R (37) (R k)) (37) (cTyC ((va_up R (37) (R k)) 37) (15 : Int32))) (37) ((((va_up (va_up R (37) (R k)) (37) (cTyC ((va_up R (37) (R k)) 37) (15 : Int32))) 37).1, ((va_up (va_up R (37) (R k)) (37) (cTyC ((va_up R (37) (R k)) 37) (15 : Int32))) 37).2.1, cSetP ((va_up (va_up R (37) (R k)) (37) (cTyC ((va_up R (37) (R k)) 37) (15 : Int32))) 37).2.2 ((cPerms ((va_up (va_up R (37) (R k)) (37) (cTyC ((va_up R (37) (R k)) 37) (15 : Int32))) k).2.2) &&& (-2 : Int32))) : Cap)) 37).2.1, ((va_up (va_up (va_up R (37) (R k)) (37) (cTyC ((va_up R (37) (R k)) 37) (15 : Int32))) (37) ((((va_up (va_up R (37) (R k)) (37) (cTyC ((va_up R (37) (R k)) 37) (15 : Int32))) 37).1, ((va_up (va_up R (37) (R k)) (37) (cTyC ((va_up R (37) (R k)) 37) (15 : Int32))) 37).2.1, cSetP ((va_up (va_up R (37) (R k)) (37) (cTyC ((va_up R (37) (R k)) 37) (15 : Int32))) 37).2.2 ((cPerms ((va_up (va_up R (37) (R k)) (37) (cTyC ((va_up R (37) (R k)) 37) (15 : Int32))) k).2.2) &&& (-2 : Int32))) : Cap)) 37).2.2) : Cap)) (nRd xb))) _ _ _ := hw
      exact hw.riz S hr hlk (rfl) d_Cun_unseal_105 () (rfl) (trivial) (by rw [va_up_ne _ _ hj37, va_up_ne _ _ hj37] at h62; simp [uUn, uR, up_up, va_up_self, va_up_ne, cMvC, cTyC, hk37, hj37, h62])
  · refine lv_aload_n hx hb d_Cun_unseal_0 rfl (lv_at hl 2 rfl) ?_
    refine q_get S hw ly_Cap (21 + (k)) (CW_at (by first | decide | omega)) rfl 0 (by decide) tb_1_46 rfl rfl d_Cun_unseal_1 ?_
    refine q_ifz_eq S d_Cun_unseal_4 rfl (fun h4 => ?_) (fun h4 => ?_)
    · refine lv_iconst (v := 0) hx hb d_Cun_unseal_31 (by decide) ?_
      refine q_topi (z := (jb (kUn (R k) (R j)))) (by simp [kUn, jb, h4]) ?_
      exact J32 _ (lv_sub (l' := [(0, .ref (ob 3)), (1, .ref ex), (2, .ref (reg k)), (3, .ref (reg j))]) hl [0, 1, 2, 3] rfl)
    · refine lv_aload_n hx hb d_Cun_unseal_7 rfl (lv_at hl 2 rfl) ?_
      refine q_cr (q_runV (As := []) (rest := []) S (w_type l D ti ad u pi ex de xi xb di db fi fb ob reg kq ca va fv R (k) (by first | decide | omega)) (cw_v hts tb_4_24 k_Cap_type rfl rfl ⟨by decide, by decide⟩) hw (21 + (k)) (CW_at (by first | decide | omega)) rfl rfl hl.1 rfl (Nat.le_of_ble_eq_true rfl) d_Cun_unseal_8 ⟨Nat.zero_le _, Nat.zero_le _⟩) ?_
      refine W.eq (g2 := F0 m9 11 ls [.int (cType (R k).2.2)]) rfl ?_
      refine lv_aload_n hx hb d_Cun_unseal_11 rfl (lv_at hl 3 rfl) ?_
      refine q_get S hw ly_Cap (21 + (j)) (CW_at (by first | decide | omega)) rfl 1 (by decide) tb_1_51 rfl rfl d_Cun_unseal_12 ?_
      refine lv_icmp_ne hx hb d_Cun_unseal_15 rfl (fun h15 => ?_) (fun h15 => ?_)
      · refine lv_iconst (v := 0) hx hb d_Cun_unseal_31 (by decide) ?_
        refine q_topi (z := (jb (kUn (R k) (R j)))) (by simp [kUn, jb, h4, h15]) ?_
        exact J32 _ (lv_sub (l' := [(0, .ref (ob 3)), (1, .ref ex), (2, .ref (reg k)), (3, .ref (reg j))]) hl [0, 1, 2, 3] rfl)
      · refine lv_aload_n hx hb d_Cun_unseal_18 rfl (lv_at hl 3 rfl) ?_
        refine lv_bipush (v := 9) hx hb d_Cun_unseal_19 (by decide) ?_
        refine q_cr (q_runS (As := [.ref (reg j), .int (9 : Int32)]) (rest := []) S (c_Cun_mayUseTypes l D ti ad u pi ex de xi xb di db fi fb ob reg kq ca va fv R (j) (by first | decide | omega) (9 : Int32)) (cw_s hts tb_4_12 k_Cun_mayUseTypes rfl rfl ⟨by decide, by decide⟩) hw rfl hl.1 rfl (Nat.le_of_ble_eq_true rfl) d_Cun_unseal_21 ⟨Nat.zero_le _, Nat.zero_le _⟩) ?_
        refine W.eq (g2 := F0 m9 24 ls [.int (jb (mUT (R j) (9 : Int32)))]) rfl ?_
        refine q_ifz_eq S d_Cun_unseal_24 rfl (fun h24 => ?_) (fun h24 => ?_)
        · refine lv_iconst (v := 0) hx hb d_Cun_unseal_31 (by decide) ?_
          refine q_topi (z := (jb (kUn (R k) (R j)))) (by simp [kUn, jb, h4, h15, h24]) ?_
          exact J32 _ (lv_sub (l' := [(0, .ref (ob 3)), (1, .ref ex), (2, .ref (reg k)), (3, .ref (reg j))]) hl [0, 1, 2, 3] rfl)
        · refine lv_iconst (v := 1) hx hb d_Cun_unseal_27 (by decide) ?_
          refine lv_goto hx hb d_Cun_unseal_28 rfl ?_
          refine q_topi (z := (jb (kUn (R k) (R j)))) (by simp [kUn, jb, h4, h15, h24]) ?_
          exact J32 _ (lv_sub (l' := [(0, .ref (ob 3)), (1, .ref ex), (2, .ref (reg k)), (3, .ref (reg j))]) hl [0, 1, 2, 3] rfl)
set_option maxHeartbeats 4000000 in
set_option maxRecDepth 100000 in
theorem c_Cun_andPerms (l : Launch) (D : va_G) (ti : Nat → ClassId) (ad : Nat → Nat) (u : MT) (pi ex de : Nat) (xi xb di db fi fb : Int32) (ob reg : Nat → Nat) (kq : Int32 × Bool × Bool × Int32 × Int64) (ca va fv : Int32) (R : Nat → Cap) (k : Nat) (hk : k < 37) (x : Int32) : Cg l y_Cun_andPerms (wl y_Cun_andPerms b_Cun_andPerms 4 (some .int)) (rmL 2) D clz (ty4 ti) [.ref (ob 3), .ref ex, .ref (reg k), .int x] (CW ad ti u pi ex de xi xb di db fi fb ob reg kq ca va fv R) (fun _ : Unit => some (.int (-1))) (fun _ => (CW ad ti u pi ex de xi xb di db fi fb ob reg kq ca va fv (uR R (uAn (R k) x) xb))) (fun _ => True) := by
  refine Cg.ofF (plainFor_of_name (by decide)) (Nat.le_of_ble_eq_true rfl) ?_
  intro p9 e9 s9 m9 b9 me9 c9 ls S hr hlk hl hw
  obtain ⟨hx, hb, hml, hown, hts⟩ := id S
  have hl : lv_has ls 4 [(0, .ref (ob 3)), (1, .ref ex), (2, .ref (reg k)), (3, .int x)] := hl
  have hr1 := nR1_lt xb
  have hr2 := nR2_lt xb
  have hrd := nRd_lt xb
  have hk37 : k ≠ 37 := by omega
  refine lv_aload_n hx hb d_Cun_andPerms_0 rfl (lv_at hl 0 rfl) ?_
  refine q_get S hw ly_Cun 19 rfl rfl 0 (by decide) tb_2_56 rfl rfl d_Cun_andPerms_1 ?_
  refine q_get S hw ly_Sta 16 rfl rfl 2 (by decide) tb_1_216 rfl rfl d_Cun_andPerms_4 ?_
  refine lv_aload_n hx hb d_Cun_andPerms_7 rfl (lv_at hl 2 rfl) ?_
  refine q_cg (q_runV (As := [.ref (reg k)]) (rest := []) S (w_become l D ti ad u pi ex de xi xb di db fi fb ob reg kq ca va fv R (37) (by first | decide | omega) (k) (by first | decide | omega) (by first | decide | omega)) (cw_v hts tb_3_226 k_Cap_become rfl rfl ⟨by decide, by decide⟩) hw (21 + (37)) (CW_at (by first | decide | omega)) rfl rfl hl.1 rfl (Nat.le_of_ble_eq_true rfl) d_Cun_andPerms_8 ⟨Nat.zero_le _, Nat.zero_le _⟩) hw (fun z hD => CW_D hD) (fun z9 H locs hp9 hw => ?_)
  refine W.eq (g2 := F0 m9 11 ls []) rfl ?_
  have hw : Lv _ _ _ _ _ (CW ad ti u pi ex de xi xb di db fi fb ob reg kq ca va fv (va_up R (37) (R k))) _ _ _ := hw
  refine lv_aload_n hx hb d_Cun_andPerms_11 rfl (lv_at hl 0 rfl) ?_
  refine q_get S hw ly_Cun 19 rfl rfl 0 (by decide) tb_2_56 rfl rfl d_Cun_andPerms_12 ?_
  refine q_get S hw ly_Sta 16 rfl rfl 2 (by decide) tb_1_216 rfl rfl d_Cun_andPerms_15 ?_
  refine lv_aload_n hx hb d_Cun_andPerms_18 rfl (lv_at hl 2 rfl) ?_
  refine q_cr (q_runV (As := []) (rest := [.ref (reg 37)]) S (w_perms l D ti ad u pi ex de xi xb di db fi fb ob reg kq ca va fv (va_up R (37) (R k)) (k) (by first | decide | omega)) (cw_v hts tb_4_25 k_Cap_perms rfl rfl ⟨by decide, by decide⟩) hw (21 + (k)) (CW_at (by first | decide | omega)) rfl rfl hl.1 rfl (Nat.le_of_ble_eq_true rfl) d_Cun_andPerms_19 ⟨Nat.zero_le _, Nat.zero_le _⟩) ?_
  refine W.eq (g2 := F0 m9 22 ls [.int (cPerms ((va_up R (37) (R k)) k).2.2), .ref (reg 37)]) rfl ?_
  refine lv_iload_n hx hb d_Cun_andPerms_22 rfl (lv_at hl 3 rfl) ?_
  refine lv_iand hx hb d_Cun_andPerms_23 ?_
  refine q_cg (q_runV (As := [.int ((cPerms ((va_up R (37) (R k)) k).2.2) &&& x)]) (rest := []) S (w_setPerms l D ti ad u pi ex de xi xb di db fi fb ob reg kq ca va fv (va_up R (37) (R k)) (37) (by first | decide | omega) ((cPerms ((va_up R (37) (R k)) k).2.2) &&& x)) (cw_v hts tb_4_26 k_Cap_setPerms rfl rfl ⟨by decide, by decide⟩) hw (21 + (37)) (CW_at (by first | decide | omega)) rfl rfl hl.1 rfl (Nat.le_of_ble_eq_true rfl) d_Cun_andPerms_24 ⟨Nat.zero_le _, Nat.zero_le _⟩) hw (fun z hD => CW_D hD) (fun z9 H locs hp9 hw => ?_)
  refine W.eq (g2 := F0 m9 27 ls []) rfl ?_
  have hw : Lv _ _ _ _ _ (CW ad ti u pi ex de xi xb di db fi fb ob reg kq ca va fv (va_up (va_up R (37) (R k)) (37) ((((va_up R (37) (R k)) 37).1, ((va_up R (37) (R k)) 37).2.1, cSetP ((va_up R (37) (R k)) 37).2.2 ((cPerms ((va_up R (37) (R k)) k).2.2) &&& x)) : Cap))) _ _ _ := hw
  refine lv_aload_n hx hb d_Cun_andPerms_27 rfl (lv_at hl 0 rfl) ?_
  refine q_get S hw ly_Cun 19 rfl rfl 0 (by decide) tb_2_56 rfl rfl d_Cun_andPerms_28 ?_
  refine q_get S hw ly_Sta 16 rfl rfl 2 (by decide) tb_1_216 rfl rfl d_Cun_andPerms_31 ?_
  refine q_join (pcJ := 53) (st := [.int (jb (kAn (R k))), .ref (reg 37)]) (lv' := [(0, .ref (ob 3)), (1, .ref ex), (2, .ref (reg k)), (3, .int x)]) (nL := 4) (fun ls hl => ?_) (fun J53 => ?_)
  · refine q_put (v := .int (jb (kAn (R k)))) S hw ly_Cap t_Cap t_Cap_ok n_Cap (21 + (37)) (CW_at (by first | decide | omega)) rfl 0 (by decide) tb_1_46 rfl rfl (jb_nar (kAn (R k))) (jb_fit (kAn (R k))) (Nat.le_of_ble_eq_true rfl) d_Cun_andPerms_53 (fun H locs hw => ?_)
    have hw : Lv _ _ _ _ _ (CW ad ti u pi ex de xi xb di db fi fb ob reg kq ca va fv (va_up (va_up (va_up R (37) (R k)) (37) ((((va_up R (37) (R k)) 37).1, ((va_up R (37) (R k)) 37).2.1, cSetP ((va_up R (37) (R k)) 37).2.2 ((cPerms ((va_up R (37) (R k)) k).2.2) &&& x)) : Cap)) (37) (((kAn (R k)), ((va_up (va_up R (37) (R k)) (37) ((((va_up R (37) (R k)) 37).1, ((va_up R (37) (R k)) 37).2.1, cSetP ((va_up R (37) (R k)) 37).2.2 ((cPerms ((va_up R (37) (R k)) k).2.2) &&& x)) : Cap)) 37).2.1, ((va_up (va_up R (37) (R k)) (37) ((((va_up R (37) (R k)) 37).1, ((va_up R (37) (R k)) 37).2.1, cSetP ((va_up R (37) (R k)) 37).2.2 ((cPerms ((va_up R (37) (R k)) k).2.2) &&& x)) : Cap)) 37).2.2) : Cap))) _ _ _ := hw.same (CW_set (by first | decide | omega) (((kAn (R k)), ((va_up (va_up R (37) (R k)) (37) ((((va_up R (37) (R k)) 37).1, ((va_up R (37) (R k)) 37).2.1, cSetP ((va_up R (37) (R k)) 37).2.2 ((cPerms ((va_up R (37) (R k)) k).2.2) &&& x)) : Cap)) 37).2.1, ((va_up (va_up R (37) (R k)) (37) ((((va_up R (37) (R k)) 37).1, ((va_up R (37) (R k)) 37).2.1, cSetP ((va_up R (37) (R k)) 37).2.2 ((cPerms ((va_up R (37) (R k)) k).2.2) &&& x)) : Cap)) 37).2.2) : Cap))
    refine lv_aload_n hx hb d_Cun_andPerms_56 rfl (lv_at hl 0 rfl) ?_
    refine q_get S hw ly_Cun 19 rfl rfl 0 (by decide) tb_2_56 rfl rfl d_Cun_andPerms_57 ?_
    refine lv_aload_n hx hb d_Cun_andPerms_60 rfl (lv_at hl 1 rfl) ?_
    refine q_get S hw ly_Ins 14 rfl rfl 3 (by decide) tb_1_155 rfl rfl d_Cun_andPerms_61 ?_
    refine q_cg (q_runV (As := [.int (nI (nRd xb))]) (rest := []) S (c_Sta_answer l D ti ad u pi ex de xi xb di db fi fb ob reg kq ca va fv (va_up (va_up (va_up R (37) (R k)) (37) ((((va_up R (37) (R k)) 37).1, ((va_up R (37) (R k)) 37).2.1, cSetP ((va_up R (37) (R k)) 37).2.2 ((cPerms ((va_up R (37) (R k)) k).2.2) &&& x)) : Cap)) (37) (((kAn (R k)), ((va_up (va_up R (37) (R k)) (37) ((((va_up R (37) (R k)) 37).1, ((va_up R (37) (R k)) 37).2.1, cSetP ((va_up R (37) (R k)) 37).2.2 ((cPerms ((va_up R (37) (R k)) k).2.2) &&& x)) : Cap)) 37).2.1, ((va_up (va_up R (37) (R k)) (37) ((((va_up R (37) (R k)) 37).1, ((va_up R (37) (R k)) 37).2.1, cSetP ((va_up R (37) (R k)) 37).2.2 ((cPerms ((va_up R (37) (R k)) k).2.2) &&& x)) : Cap)) 37).2.2) : Cap)) (nRd xb) (by first | decide | omega)) (cw_v hts tb_3_227 k_Sta_answer rfl rfl ⟨by decide, by decide⟩) hw 16 rfl rfl rfl hl.1 rfl (Nat.le_of_ble_eq_true rfl) d_Cun_andPerms_64 ⟨Nat.zero_le _, Nat.zero_le _⟩) hw (fun z hD => CW_D (qD_same hD rfl)) (fun z9 H locs hp9 hw => ?_)
    refine W.eq (g2 := F0 m9 67 ls [.int (-1 : Int32)]) rfl ?_
    have hw : Lv _ _ _ _ _ (CW ad ti u pi ex de xi xb di db fi fb ob reg kq ca va fv (aR (va_up (va_up (va_up R (37) (R k)) (37) ((((va_up R (37) (R k)) 37).1, ((va_up R (37) (R k)) 37).2.1, cSetP ((va_up R (37) (R k)) 37).2.2 ((cPerms ((va_up R (37) (R k)) k).2.2) &&& x)) : Cap)) (37) (((kAn (R k)), ((va_up (va_up R (37) (R k)) (37) ((((va_up R (37) (R k)) 37).1, ((va_up R (37) (R k)) 37).2.1, cSetP ((va_up R (37) (R k)) 37).2.2 ((cPerms ((va_up R (37) (R k)) k).2.2) &&& x)) : Cap)) 37).2.1, ((va_up (va_up R (37) (R k)) (37) ((((va_up R (37) (R k)) 37).1, ((va_up R (37) (R k)) 37).2.1, cSetP ((va_up R (37) (R k)) 37).2.2 ((cPerms ((va_up R (37) (R k)) k).2.2) &&& x)) : Cap)) 37).2.2) : Cap)) (nRd xb))) _ _ _ := hw
    exact hw.riz S hr hlk (rfl) d_Cun_andPerms_67 () (rfl) (trivial) (by simp [uR, up_up, va_up_self, va_up_ne, cMvC, cTyC, hk37, uAn])
  · refine lv_aload_n hx hb d_Cun_andPerms_34 rfl (lv_at hl 2 rfl) ?_
    refine q_get S hw ly_Cap (21 + (k)) (CW_at (by first | decide | omega)) rfl 0 (by decide) tb_1_46 rfl rfl d_Cun_andPerms_35 ?_
    refine q_ifz_eq S d_Cun_andPerms_38 rfl (fun h38 => ?_) (fun h38 => ?_)
    · refine lv_iconst (v := 0) hx hb d_Cun_andPerms_52 (by decide) ?_
      refine q_topi (z := (jb (kAn (R k)))) (by simp only [up_up, va_up_ne _ _ hk37] at h38; simp [kAn, jb, h38]) ?_
      exact J53 _ (lv_sub (l' := [(0, .ref (ob 3)), (1, .ref ex), (2, .ref (reg k)), (3, .int x)]) hl [0, 1, 2, 3] rfl)
    · refine lv_aload_n hx hb d_Cun_andPerms_41 rfl (lv_at hl 2 rfl) ?_
      refine q_cr (q_runV (As := []) (rest := [.ref (reg 37)]) S (w_isOpen l D ti ad u pi ex de xi xb di db fi fb ob reg kq ca va fv (va_up (va_up R (37) (R k)) (37) ((((va_up R (37) (R k)) 37).1, ((va_up R (37) (R k)) 37).2.1, cSetP ((va_up R (37) (R k)) 37).2.2 ((cPerms ((va_up R (37) (R k)) k).2.2) &&& x)) : Cap)) (k) (by first | decide | omega)) (cw_v hts tb_4_2 k_Cap_isOpen rfl rfl ⟨by decide, by decide⟩) hw (21 + (k)) (CW_at (by first | decide | omega)) rfl rfl hl.1 rfl (Nat.le_of_ble_eq_true rfl) d_Cun_andPerms_42 ⟨Nat.zero_le _, Nat.zero_le _⟩) ?_
      refine W.eq (g2 := F0 m9 45 ls [.int (jb (cOpen ((va_up (va_up R (37) (R k)) (37) ((((va_up R (37) (R k)) 37).1, ((va_up R (37) (R k)) 37).2.1, cSetP ((va_up R (37) (R k)) 37).2.2 ((cPerms ((va_up R (37) (R k)) k).2.2) &&& x)) : Cap)) k).2.2)), .ref (reg 37)]) rfl ?_
      refine q_ifz_eq S d_Cun_andPerms_45 rfl (fun h45 => ?_) (fun h45 => ?_)
      · refine lv_iconst (v := 0) hx hb d_Cun_andPerms_52 (by decide) ?_
        refine q_topi (z := (jb (kAn (R k)))) (by simp only [up_up, va_up_ne _ _ hk37] at h38 h45; simp [kAn, jb, h38, h45]) ?_
        exact J53 _ (lv_sub (l' := [(0, .ref (ob 3)), (1, .ref ex), (2, .ref (reg k)), (3, .int x)]) hl [0, 1, 2, 3] rfl)
      · refine lv_iconst (v := 1) hx hb d_Cun_andPerms_48 (by decide) ?_
        refine lv_goto hx hb d_Cun_andPerms_49 rfl ?_
        refine q_topi (z := (jb (kAn (R k)))) (by simp only [up_up, va_up_ne _ _ hk37] at h38 h45; simp [kAn, jb, h38, h45]) ?_
        exact J53 _ (lv_sub (l' := [(0, .ref (ob 3)), (1, .ref ex), (2, .ref (reg k)), (3, .int x)]) hl [0, 1, 2, 3] rfl)
set_option maxHeartbeats 4000000 in
set_option maxRecDepth 100000 in
theorem c_Cun_setHigh (l : Launch) (D : va_G) (ti : Nat → ClassId) (ad : Nat → Nat) (u : MT) (pi ex de : Nat) (xi xb di db fi fb : Int32) (ob reg : Nat → Nat) (kq : Int32 × Bool × Bool × Int32 × Int64) (ca va fv : Int32) (R : Nat → Cap) (k : Nat) (hk : k < 37) (x : Int32) : Cg l y_Cun_setHigh (wl y_Cun_setHigh b_Cun_setHigh 4 (some .int)) (rmL 3) D clz (ty4 ti) [.ref (ob 3), .ref ex, .ref (reg k), .int x] (CW ad ti u pi ex de xi xb di db fi fb ob reg kq ca va fv R) (fun _ : Unit => some (.int (-1))) (fun _ => (CW ad ti u pi ex de xi xb di db fi fb ob reg kq ca va fv (uR R ((false, (R k).2.1, x ^^^ 1000194) : Cap) xb))) (fun _ => True) := by
  refine Cg.ofF (plainFor_of_name (by decide)) (Nat.le_of_ble_eq_true rfl) ?_
  intro p9 e9 s9 m9 b9 me9 c9 ls S hr hlk hl hw
  obtain ⟨hx, hb, hml, hown, hts⟩ := id S
  have hl : lv_has ls 4 [(0, .ref (ob 3)), (1, .ref ex), (2, .ref (reg k)), (3, .int x)] := hl
  have hr1 := nR1_lt xb
  have hr2 := nR2_lt xb
  have hrd := nRd_lt xb
  have hk37 : k ≠ 37 := by omega
  refine lv_aload_n hx hb d_Cun_setHigh_0 rfl (lv_at hl 0 rfl) ?_
  refine q_get S hw ly_Cun 19 rfl rfl 0 (by decide) tb_2_56 rfl rfl d_Cun_setHigh_1 ?_
  refine q_get S hw ly_Sta 16 rfl rfl 2 (by decide) tb_1_216 rfl rfl d_Cun_setHigh_4 ?_
  refine lv_iconst (v := 0) hx hb d_Cun_setHigh_7 (by decide) ?_
  refine lv_aload_n hx hb d_Cun_setHigh_8 rfl (lv_at hl 2 rfl) ?_
  refine q_get S hw ly_Cap (21 + (k)) (CW_at (by first | decide | omega)) rfl 1 (by decide) tb_1_51 rfl rfl d_Cun_setHigh_9 ?_
  refine lv_iload_n hx hb d_Cun_setHigh_12 rfl (lv_at hl 3 rfl) ?_
  refine lv_ldc (v := 1000194) hx hb hown (hts _ tb_4_56) d_Cun_setHigh_13 ?_
  refine lv_ixor hx hb d_Cun_setHigh_15 ?_
  refine q_cg (q_runV (As := [.int (jb false), .int ((R k).2.1), .int (x ^^^ (1000194 : Int32))]) (rest := []) S (w_define l D ti ad u pi ex de xi xb di db fi fb ob reg kq ca va fv R (37) (by first | decide | omega) false ((R k).2.1) (x ^^^ (1000194 : Int32))) (cw_v hts tb_4_57 k_Cap_define rfl rfl ⟨by decide, by decide⟩) hw (21 + (37)) (CW_at (by first | decide | omega)) rfl rfl hl.1 rfl (Nat.le_of_ble_eq_true rfl) d_Cun_setHigh_16 ⟨Nat.zero_le _, Nat.zero_le _⟩) hw (fun z hD => CW_D hD) (fun z9 H locs hp9 hw => ?_)
  refine W.eq (g2 := F0 m9 19 ls []) rfl ?_
  have hw : Lv _ _ _ _ _ (CW ad ti u pi ex de xi xb di db fi fb ob reg kq ca va fv (va_up R (37) ((false, ((R k).2.1), (x ^^^ (1000194 : Int32))) : Cap))) _ _ _ := hw
  refine lv_aload_n hx hb d_Cun_setHigh_19 rfl (lv_at hl 0 rfl) ?_
  refine q_get S hw ly_Cun 19 rfl rfl 0 (by decide) tb_2_56 rfl rfl d_Cun_setHigh_20 ?_
  refine lv_aload_n hx hb d_Cun_setHigh_23 rfl (lv_at hl 1 rfl) ?_
  refine q_get S hw ly_Ins 14 rfl rfl 3 (by decide) tb_1_155 rfl rfl d_Cun_setHigh_24 ?_
  refine q_cg (q_runV (As := [.int (nI (nRd xb))]) (rest := []) S (c_Sta_answer l D ti ad u pi ex de xi xb di db fi fb ob reg kq ca va fv (va_up R (37) ((false, ((R k).2.1), (x ^^^ (1000194 : Int32))) : Cap)) (nRd xb) (by first | decide | omega)) (cw_v hts tb_3_227 k_Sta_answer rfl rfl ⟨by decide, by decide⟩) hw 16 rfl rfl rfl hl.1 rfl (Nat.le_of_ble_eq_true rfl) d_Cun_setHigh_27 ⟨Nat.zero_le _, Nat.zero_le _⟩) hw (fun z hD => CW_D (qD_same hD rfl)) (fun z9 H locs hp9 hw => ?_)
  refine W.eq (g2 := F0 m9 30 ls [.int (-1 : Int32)]) rfl ?_
  have hw : Lv _ _ _ _ _ (CW ad ti u pi ex de xi xb di db fi fb ob reg kq ca va fv (aR (va_up R (37) ((false, ((R k).2.1), (x ^^^ (1000194 : Int32))) : Cap)) (nRd xb))) _ _ _ := hw
  exact hw.riz S hr hlk (rfl) d_Cun_setHigh_30 () (rfl) (trivial) (by simp [uR, up_up, va_up_self, va_up_ne, cMvC, cTyC, hk37])
set_option maxHeartbeats 4000000 in
set_option maxRecDepth 100000 in
theorem c_Cun_build (l : Launch) (D : va_G) (ti : Nat → ClassId) (ad : Nat → Nat) (u : MT) (pi ex de : Nat) (xi xb di db fi fb : Int32) (ob reg : Nat → Nat) (kq : Int32 × Bool × Bool × Int32 × Int64) (ca va fv : Int32) (R : Nat → Cap) (k : Nat) (hk : k < 37) (j : Nat) (hj : j < 37) : Cg l y_Cun_build (wl y_Cun_build b_Cun_build 5 (some .int)) (rmL 2) D clz (ty4 ti) [.ref (ob 3), .ref ex, .ref (reg k), .ref (reg j)] (CW ad ti u pi ex de xi xb di db fi fb ob reg kq ca va fv R) (fun _ : Unit => some (.int (-1))) (fun _ => (CW ad ti u pi ex de xi xb di db fi fb ob reg kq ca va fv (uR R (uBd (R k) (R j)) xb))) (fun _ => True) := by
  refine Cg.ofF (plainFor_of_name (by decide)) (Nat.le_of_ble_eq_true rfl) ?_
  intro p9 e9 s9 m9 b9 me9 c9 ls S hr hlk hl hw
  obtain ⟨hx, hb, hml, hown, hts⟩ := id S
  have hl : lv_has ls 5 [(0, .ref (ob 3)), (1, .ref ex), (2, .ref (reg k)), (3, .ref (reg j))] := hl
  have hr1 := nR1_lt xb
  have hr2 := nR2_lt xb
  have hrd := nRd_lt xb
  have hk37 : k ≠ 37 := by omega
  have hj37 : j ≠ 37 := by omega
  refine q_join (pcJ := 39) (st := [.int (jb (kBd (R k) (R j)))]) (lv' := [(0, .ref (ob 3)), (1, .ref ex), (2, .ref (reg k)), (3, .ref (reg j))]) (nL := 5) (fun ls hl => ?_) (fun J39 => ?_)
  · refine lv_istore (lv' := [(4, .int (jb (kBd (R k) (R j)))), (0, .ref (ob 3)), (1, .ref ex), (2, .ref (reg k)), (3, .ref (reg j))]) hx hb d_Cun_build_39 hl (by decide) rfl (fun ls hl => ?_)
    refine lv_aload_n hx hb d_Cun_build_41 rfl (lv_at hl 1 rfl) ?_
    refine q_get S hw ly_Cun 19 rfl rfl 0 (by decide) tb_2_56 rfl rfl d_Cun_build_42 ?_
    refine q_get S hw ly_Sta 16 rfl rfl 2 (by decide) tb_1_216 rfl rfl d_Cun_build_45 ?_
    refine lv_aload_n hx hb d_Cun_build_48 rfl (lv_at hl 4 rfl) ?_
    refine q_cg (q_runV (As := [.ref (reg j)]) (rest := []) S (w_become l D ti ad u pi ex de xi xb di db fi fb ob reg kq ca va fv R (37) (by first | decide | omega) (j) (by first | decide | omega) (by first | decide | omega)) (cw_v hts tb_3_226 k_Cap_become rfl rfl ⟨by decide, by decide⟩) hw (21 + (37)) (CW_at (by first | decide | omega)) rfl rfl hl.1 rfl (Nat.le_of_ble_eq_true rfl) d_Cun_build_49 ⟨Nat.zero_le _, Nat.zero_le _⟩) hw (fun z hD => CW_D hD) (fun z9 H locs hp9 hw => ?_)
    refine W.eq (g2 := F0 m9 52 ls []) rfl ?_
    have hw : Lv _ _ _ _ _ (CW ad ti u pi ex de xi xb di db fi fb ob reg kq ca va fv (va_up R (37) (R j))) _ _ _ := hw
    refine lv_aload_n hx hb d_Cun_build_52 rfl (lv_at hl 4 rfl) ?_
    refine q_cr (q_runV (As := []) (rest := []) S (w_type l D ti ad u pi ex de xi xb di db fi fb ob reg kq ca va fv (va_up R (37) (R j)) (j) (by first | decide | omega)) (cw_v hts tb_4_24 k_Cap_type rfl rfl ⟨by decide, by decide⟩) hw (21 + (j)) (CW_at (by first | decide | omega)) rfl rfl hl.1 rfl (Nat.le_of_ble_eq_true rfl) d_Cun_build_53 ⟨Nat.zero_le _, Nat.zero_le _⟩) ?_
    refine W.eq (g2 := F0 m9 56 ls [.int (cType ((va_up R (37) (R j)) j).2.2)]) rfl ?_
    refine lv_bipush (v := 14) hx hb d_Cun_build_56 (by decide) ?_
    refine lv_icmp_eq hx hb d_Cun_build_58 rfl (fun h58 => ?_) (fun h58 => ?_)
    · refine lv_aload_n hx hb d_Cun_build_73 rfl (lv_at hl 1 rfl) ?_
      refine q_get S hw ly_Cun 19 rfl rfl 0 (by decide) tb_2_56 rfl rfl d_Cun_build_74 ?_
      refine q_get S hw ly_Sta 16 rfl rfl 2 (by decide) tb_1_216 rfl rfl d_Cun_build_77 ?_
      refine lv_iload hx hb d_Cun_build_80 (lv_at hl 0 rfl) ?_
      refine q_put (v := .int (jb (kBd (R k) (R j)))) S hw ly_Cap t_Cap t_Cap_ok n_Cap (21 + (37)) (CW_at (by first | decide | omega)) rfl 0 (by decide) tb_1_46 rfl rfl (jb_nar (kBd (R k) (R j))) (jb_fit (kBd (R k) (R j))) (Nat.le_of_ble_eq_true rfl) d_Cun_build_82 (fun H locs hw => ?_)
      have hw : Lv _ _ _ _ _ (CW ad ti u pi ex de xi xb di db fi fb ob reg kq ca va fv (va_up (va_up R (37) (R j)) (37) (((kBd (R k) (R j)), ((va_up R (37) (R j)) 37).2.1, ((va_up R (37) (R j)) 37).2.2) : Cap))) _ _ _ := hw.same (CW_set (by first | decide | omega) (((kBd (R k) (R j)), ((va_up R (37) (R j)) 37).2.1, ((va_up R (37) (R j)) 37).2.2) : Cap))
      refine lv_aload_n hx hb d_Cun_build_85 rfl (lv_at hl 1 rfl) ?_
      refine q_get S hw ly_Cun 19 rfl rfl 0 (by decide) tb_2_56 rfl rfl d_Cun_build_86 ?_
      refine lv_aload_n hx hb d_Cun_build_89 rfl (lv_at hl 2 rfl) ?_
      refine q_get S hw ly_Ins 14 rfl rfl 3 (by decide) tb_1_155 rfl rfl d_Cun_build_90 ?_
      refine q_cg (q_runV (As := [.int (nI (nRd xb))]) (rest := []) S (c_Sta_answer l D ti ad u pi ex de xi xb di db fi fb ob reg kq ca va fv (va_up (va_up R (37) (R j)) (37) (((kBd (R k) (R j)), ((va_up R (37) (R j)) 37).2.1, ((va_up R (37) (R j)) 37).2.2) : Cap)) (nRd xb) (by first | decide | omega)) (cw_v hts tb_3_227 k_Sta_answer rfl rfl ⟨by decide, by decide⟩) hw 16 rfl rfl rfl hl.1 rfl (Nat.le_of_ble_eq_true rfl) d_Cun_build_93 ⟨Nat.zero_le _, Nat.zero_le _⟩) hw (fun z hD => CW_D (qD_same hD rfl)) (fun z9 H locs hp9 hw => ?_)
      refine W.eq (g2 := F0 m9 96 ls [.int (-1 : Int32)]) rfl ?_
      have hw : Lv _ _ _ _ _ (CW ad ti u pi ex de xi xb di db fi fb ob reg kq ca va fv (aR (va_up (va_up R (37) (R j)) (37) (((kBd (R k) (R j)), ((va_up R (37) (R j)) 37).2.1, ((va_up R (37) (R j)) 37).2.2) : Cap)) (nRd xb))) _ _ _ := hw
      exact hw.riz S hr hlk (rfl) d_Cun_build_96 () (rfl) (trivial) (by rw [va_up_ne _ _ hj37] at h58; simp [uBd, uR, up_up, va_up_self, va_up_ne, cMvC, cTyC, hk37, hj37, h58])
    · refine lv_aload_n hx hb d_Cun_build_61 rfl (lv_at hl 1 rfl) ?_
      refine q_get S hw ly_Cun 19 rfl rfl 0 (by decide) tb_2_56 rfl rfl d_Cun_build_62 ?_
      refine q_get S hw ly_Sta 16 rfl rfl 2 (by decide) tb_1_216 rfl rfl d_Cun_build_65 ?_
      refine lv_bipush (v := 15) hx hb d_Cun_build_68 (by decide) ?_
      refine q_cg (q_runV (As := [.int (15 : Int32)]) (rest := []) S (w_setType l D ti ad u pi ex de xi xb di db fi fb ob reg kq ca va fv (va_up R (37) (R j)) (37) (by first | decide | omega) (15 : Int32)) (cw_v hts tb_4_15 k_Cap_setType rfl rfl ⟨by decide, by decide⟩) hw (21 + (37)) (CW_at (by first | decide | omega)) rfl rfl hl.1 rfl (Nat.le_of_ble_eq_true rfl) d_Cun_build_70 ⟨Nat.zero_le _, Nat.zero_le _⟩) hw (fun z hD => CW_D hD) (fun z9 H locs hp9 hw => ?_)
      refine W.eq (g2 := F0 m9 73 ls []) rfl ?_
      have hw : Lv _ _ _ _ _ (CW ad ti u pi ex de xi xb di db fi fb ob reg kq ca va fv (va_up (va_up R (37) (R j)) (37) (cTyC ((va_up R (37) (R j)) 37) (15 : Int32)))) _ _ _ := hw
      refine lv_aload_n hx hb d_Cun_build_73 rfl (lv_at hl 1 rfl) ?_
      refine q_get S hw ly_Cun 19 rfl rfl 0 (by decide) tb_2_56 rfl rfl d_Cun_build_74 ?_
      refine q_get S hw ly_Sta 16 rfl rfl 2 (by decide) tb_1_216 rfl rfl d_Cun_build_77 ?_
      refine lv_iload hx hb d_Cun_build_80 (lv_at hl 0 rfl) ?_
      refine q_put (v := .int (jb (kBd (R k) (R j)))) S hw ly_Cap t_Cap t_Cap_ok n_Cap (21 + (37)) (CW_at (by first | decide | omega)) rfl 0 (by decide) tb_1_46 rfl rfl (jb_nar (kBd (R k) (R j))) (jb_fit (kBd (R k) (R j))) (Nat.le_of_ble_eq_true rfl) d_Cun_build_82 (fun H locs hw => ?_)
      have hw : Lv _ _ _ _ _ (CW ad ti u pi ex de xi xb di db fi fb ob reg kq ca va fv (va_up (va_up (va_up R (37) (R j)) (37) (cTyC ((va_up R (37) (R j)) 37) (15 : Int32))) (37) (((kBd (R k) (R j)), ((va_up (va_up R (37) (R j)) (37) (cTyC ((va_up R (37) (R j)) 37) (15 : Int32))) 37).2.1, ((va_up (va_up R (37) (R j)) (37) (cTyC ((va_up R (37) (R j)) 37) (15 : Int32))) 37).2.2) : Cap))) _ _ _ := hw.same (CW_set (by first | decide | omega) (((kBd (R k) (R j)), ((va_up (va_up R (37) (R j)) (37) (cTyC ((va_up R (37) (R j)) 37) (15 : Int32))) 37).2.1, ((va_up (va_up R (37) (R j)) (37) (cTyC ((va_up R (37) (R j)) 37) (15 : Int32))) 37).2.2) : Cap))
      refine lv_aload_n hx hb d_Cun_build_85 rfl (lv_at hl 1 rfl) ?_
      refine q_get S hw ly_Cun 19 rfl rfl 0 (by decide) tb_2_56 rfl rfl d_Cun_build_86 ?_
      refine lv_aload_n hx hb d_Cun_build_89 rfl (lv_at hl 2 rfl) ?_
      refine q_get S hw ly_Ins 14 rfl rfl 3 (by decide) tb_1_155 rfl rfl d_Cun_build_90 ?_
      refine q_cg (q_runV (As := [.int (nI (nRd xb))]) (rest := []) S (c_Sta_answer l D ti ad u pi ex de xi xb di db fi fb ob reg kq ca va fv (va_up (va_up (va_up R (37) (R j)) (37) (cTyC ((va_up R (37) (R j)) 37) (15 : Int32))) (37) (((kBd (R k) (R j)), ((va_up (va_up R (37) (R j)) (37) (cTyC ((va_up R (37) (R j)) 37) (15 : Int32))) 37).2.1, ((va_up (va_up R (37) (R j)) (37) (cTyC ((va_up R (37) (R j)) 37) (15 : Int32))) 37).2.2) : Cap)) (nRd xb) (by first | decide | omega)) (cw_v hts tb_3_227 k_Sta_answer rfl rfl ⟨by decide, by decide⟩) hw 16 rfl rfl rfl hl.1 rfl (Nat.le_of_ble_eq_true rfl) d_Cun_build_93 ⟨Nat.zero_le _, Nat.zero_le _⟩) hw (fun z hD => CW_D (qD_same hD rfl)) (fun z9 H locs hp9 hw => ?_)
      refine W.eq (g2 := F0 m9 96 ls [.int (-1 : Int32)]) rfl ?_
      have hw : Lv _ _ _ _ _ (CW ad ti u pi ex de xi xb di db fi fb ob reg kq ca va fv (aR (va_up (va_up (va_up R (37) (R j)) (37) (cTyC ((va_up R (37) (R j)) 37) (15 : Int32))) (37) (((kBd (R k) (R j)), ((va_up (va_up R (37) (R j)) (37) (cTyC ((va_up R (37) (R j)) 37) (15 : Int32))) 37).2.1, ((va_up (va_up R (37) (R j)) (37) (cTyC ((va_up R (37) (R j)) 37) (15 : Int32))) 37).2.2) : Cap)) (nRd xb))) _ _ _ := hw
      exact hw.riz S hr hlk (rfl) d_Cun_build_96 () (rfl) (trivial) (by rw [va_up_ne _ _ hj37] at h58; simp [uBd, uR, up_up, va_up_self, va_up_ne, cMvC, cTyC, hk37, hj37, h58])
  · refine lv_aload_n hx hb d_Cun_build_0 rfl (lv_at hl 2 rfl) ?_
    refine q_get S hw ly_Cap (21 + (k)) (CW_at (by first | decide | omega)) rfl 0 (by decide) tb_1_46 rfl rfl d_Cun_build_1 ?_
    refine q_ifz_eq S d_Cun_build_4 rfl (fun h4 => ?_) (fun h4 => ?_)
    · refine lv_iconst (v := 0) hx hb d_Cun_build_38 (by decide) ?_
      refine q_topi (z := (jb (kBd (R k) (R j)))) (by simp [kBd, jb, h4]) ?_
      exact J39 _ (lv_sub (l' := [(0, .ref (ob 3)), (1, .ref ex), (2, .ref (reg k)), (3, .ref (reg j))]) hl [0, 1, 2, 3] rfl)
    · refine lv_aload_n hx hb d_Cun_build_7 rfl (lv_at hl 2 rfl) ?_
      refine q_cr (q_runV (As := []) (rest := []) S (w_isOpen l D ti ad u pi ex de xi xb di db fi fb ob reg kq ca va fv R (k) (by first | decide | omega)) (cw_v hts tb_4_2 k_Cap_isOpen rfl rfl ⟨by decide, by decide⟩) hw (21 + (k)) (CW_at (by first | decide | omega)) rfl rfl hl.1 rfl (Nat.le_of_ble_eq_true rfl) d_Cun_build_8 ⟨Nat.zero_le _, Nat.zero_le _⟩) ?_
      refine W.eq (g2 := F0 m9 11 ls [.int (jb (cOpen (R k).2.2))]) rfl ?_
      refine q_ifz_eq S d_Cun_build_11 rfl (fun h11 => ?_) (fun h11 => ?_)
      · refine lv_iconst (v := 0) hx hb d_Cun_build_38 (by decide) ?_
        refine q_topi (z := (jb (kBd (R k) (R j)))) (by simp [kBd, jb, h4, h11]) ?_
        exact J39 _ (lv_sub (l' := [(0, .ref (ob 3)), (1, .ref ex), (2, .ref (reg k)), (3, .ref (reg j))]) hl [0, 1, 2, 3] rfl)
      · refine lv_aload_n hx hb d_Cun_build_14 rfl (lv_at hl 3 rfl) ?_
        refine q_get S hw ly_Cap (21 + (j)) (CW_at (by first | decide | omega)) rfl 3 (by decide) tb_1_58 rfl rfl d_Cun_build_15 ?_
        refine lv_aload_n hx hb d_Cun_build_18 rfl (lv_at hl 3 rfl) ?_
        refine q_get S hw ly_Cap (21 + (j)) (CW_at (by first | decide | omega)) rfl 4 (by decide) tb_1_61 rfl rfl d_Cun_build_19 ?_
        refine q_lc_gt S d_Cun_build_22 d_Cun_build_23 rfl (fun h23 => ?_) (fun h23 => ?_)
        · refine lv_iconst (v := 0) hx hb d_Cun_build_38 (by decide) ?_
          refine q_topi (z := (jb (kBd (R k) (R j)))) (by simp [kBd, jb, h4, h11, h23]) ?_
          exact J39 _ (lv_sub (l' := [(0, .ref (ob 3)), (1, .ref ex), (2, .ref (reg k)), (3, .ref (reg j))]) hl [0, 1, 2, 3] rfl)
        · refine lv_aload_n hx hb d_Cun_build_26 rfl (lv_at hl 3 rfl) ?_
          refine lv_aload_n hx hb d_Cun_build_27 rfl (lv_at hl 2 rfl) ?_
          refine q_cr (q_runV (As := [.ref (reg k)]) (rest := []) S (w_isW l D ti ad u pi ex de xi xb di db fi fb ob reg kq ca va fv R (j) (k) (by first | decide | omega) (by first | decide | omega)) (cw_v hts tb_4_62 k_Cap_isWithin rfl rfl ⟨by decide, by decide⟩) hw (21 + (j)) (CW_at (by first | decide | omega)) rfl rfl hl.1 rfl (Nat.le_of_ble_eq_true rfl) d_Cun_build_28 ⟨Nat.zero_le _, Nat.zero_le _⟩) ?_
          refine W.eq (g2 := F0 m9 31 ls [.int (jb (cWC (R j) (R k)))]) rfl ?_
          refine q_ifz_eq S d_Cun_build_31 rfl (fun h31 => ?_) (fun h31 => ?_)
          · refine lv_iconst (v := 0) hx hb d_Cun_build_38 (by decide) ?_
            refine q_topi (z := (jb (kBd (R k) (R j)))) (by simp [kBd, jb, h4, h11, h23, h31]) ?_
            exact J39 _ (lv_sub (l' := [(0, .ref (ob 3)), (1, .ref ex), (2, .ref (reg k)), (3, .ref (reg j))]) hl [0, 1, 2, 3] rfl)
          · refine lv_iconst (v := 1) hx hb d_Cun_build_34 (by decide) ?_
            refine lv_goto hx hb d_Cun_build_35 rfl ?_
            refine q_topi (z := (jb (kBd (R k) (R j)))) (by simp [kBd, jb, h4, h11, h23, h31]) ?_
            exact J39 _ (lv_sub (l' := [(0, .ref (ob 3)), (1, .ref ex), (2, .ref (reg k)), (3, .ref (reg j))]) hl [0, 1, 2, 3] rfl)
set_option maxHeartbeats 4000000 in
set_option maxRecDepth 100000 in
theorem c_Cun_copy (l : Launch) (D : va_G) (ti : Nat → ClassId) (ad : Nat → Nat) (u : MT) (pi ex de : Nat) (xi xb di db fi fb : Int32) (ob reg : Nat → Nat) (kq : Int32 × Bool × Bool × Int32 × Int64) (ca va fv : Int32) (R : Nat → Cap) (k : Nat) (hk : k < 37) (tt : Bool) : Cg l y_Cun_copy (wl y_Cun_copy b_Cun_copy 4 (some .int)) (rmL 2) D clz (ty4 ti) [.ref (ob 3), .ref ex, .ref (reg k), .int (jb tt)] (CW ad ti u pi ex de xi xb di db fi fb ob reg kq ca va fv R) (fun _ : Unit => some (.int (-1))) (fun _ => (CW ad ti u pi ex de xi xb di db fi fb ob reg kq ca va fv (uR R ((tt, (R k).2.1, (R k).2.2) : Cap) xb))) (fun _ => True) := by
  refine Cg.ofF (plainFor_of_name (by decide)) (Nat.le_of_ble_eq_true rfl) ?_
  intro p9 e9 s9 m9 b9 me9 c9 ls S hr hlk hl hw
  obtain ⟨hx, hb, hml, hown, hts⟩ := id S
  have hl : lv_has ls 4 [(0, .ref (ob 3)), (1, .ref ex), (2, .ref (reg k)), (3, .int (jb tt))] := hl
  have hr1 := nR1_lt xb
  have hr2 := nR2_lt xb
  have hrd := nRd_lt xb
  have hk37 : k ≠ 37 := by omega
  refine lv_aload_n hx hb d_Cun_copy_0 rfl (lv_at hl 0 rfl) ?_
  refine q_get S hw ly_Cun 19 rfl rfl 0 (by decide) tb_2_56 rfl rfl d_Cun_copy_1 ?_
  refine q_get S hw ly_Sta 16 rfl rfl 2 (by decide) tb_1_216 rfl rfl d_Cun_copy_4 ?_
  refine lv_aload_n hx hb d_Cun_copy_7 rfl (lv_at hl 2 rfl) ?_
  refine q_cg (q_runV (As := [.ref (reg k)]) (rest := []) S (w_become l D ti ad u pi ex de xi xb di db fi fb ob reg kq ca va fv R (37) (by first | decide | omega) (k) (by first | decide | omega) (by first | decide | omega)) (cw_v hts tb_3_226 k_Cap_become rfl rfl ⟨by decide, by decide⟩) hw (21 + (37)) (CW_at (by first | decide | omega)) rfl rfl hl.1 rfl (Nat.le_of_ble_eq_true rfl) d_Cun_copy_8 ⟨Nat.zero_le _, Nat.zero_le _⟩) hw (fun z hD => CW_D hD) (fun z9 H locs hp9 hw => ?_)
  refine W.eq (g2 := F0 m9 11 ls []) rfl ?_
  have hw : Lv _ _ _ _ _ (CW ad ti u pi ex de xi xb di db fi fb ob reg kq ca va fv (va_up R (37) (R k))) _ _ _ := hw
  refine lv_aload_n hx hb d_Cun_copy_11 rfl (lv_at hl 0 rfl) ?_
  refine q_get S hw ly_Cun 19 rfl rfl 0 (by decide) tb_2_56 rfl rfl d_Cun_copy_12 ?_
  refine q_get S hw ly_Sta 16 rfl rfl 2 (by decide) tb_1_216 rfl rfl d_Cun_copy_15 ?_
  refine lv_iload_n hx hb d_Cun_copy_18 rfl (lv_at hl 3 rfl) ?_
  refine q_put (v := .int (jb tt)) S hw ly_Cap t_Cap t_Cap_ok n_Cap (21 + (37)) (CW_at (by first | decide | omega)) rfl 0 (by decide) tb_1_46 rfl rfl (jb_nar tt) (jb_fit tt) (Nat.le_of_ble_eq_true rfl) d_Cun_copy_19 (fun H locs hw => ?_)
  have hw : Lv _ _ _ _ _ (CW ad ti u pi ex de xi xb di db fi fb ob reg kq ca va fv (va_up (va_up R (37) (R k)) (37) ((tt, ((va_up R (37) (R k)) 37).2.1, ((va_up R (37) (R k)) 37).2.2) : Cap))) _ _ _ := hw.same (CW_set (by first | decide | omega) ((tt, ((va_up R (37) (R k)) 37).2.1, ((va_up R (37) (R k)) 37).2.2) : Cap))
  refine lv_aload_n hx hb d_Cun_copy_22 rfl (lv_at hl 0 rfl) ?_
  refine q_get S hw ly_Cun 19 rfl rfl 0 (by decide) tb_2_56 rfl rfl d_Cun_copy_23 ?_
  refine lv_aload_n hx hb d_Cun_copy_26 rfl (lv_at hl 1 rfl) ?_
  refine q_get S hw ly_Ins 14 rfl rfl 3 (by decide) tb_1_155 rfl rfl d_Cun_copy_27 ?_
  refine q_cg (q_runV (As := [.int (nI (nRd xb))]) (rest := []) S (c_Sta_answer l D ti ad u pi ex de xi xb di db fi fb ob reg kq ca va fv (va_up (va_up R (37) (R k)) (37) ((tt, ((va_up R (37) (R k)) 37).2.1, ((va_up R (37) (R k)) 37).2.2) : Cap)) (nRd xb) (by first | decide | omega)) (cw_v hts tb_3_227 k_Sta_answer rfl rfl ⟨by decide, by decide⟩) hw 16 rfl rfl rfl hl.1 rfl (Nat.le_of_ble_eq_true rfl) d_Cun_copy_30 ⟨Nat.zero_le _, Nat.zero_le _⟩) hw (fun z hD => CW_D (qD_same hD rfl)) (fun z9 H locs hp9 hw => ?_)
  refine W.eq (g2 := F0 m9 33 ls [.int (-1 : Int32)]) rfl ?_
  have hw : Lv _ _ _ _ _ (CW ad ti u pi ex de xi xb di db fi fb ob reg kq ca va fv (aR (va_up (va_up R (37) (R k)) (37) ((tt, ((va_up R (37) (R k)) 37).2.1, ((va_up R (37) (R k)) 37).2.2) : Cap)) (nRd xb))) _ _ _ := hw
  exact hw.riz S hr hlk (rfl) d_Cun_copy_33 () (rfl) (trivial) (by simp [uR, up_up, va_up_self, va_up_ne, cMvC, cTyC, hk37])
set_option maxHeartbeats 4000000 in
set_option maxRecDepth 100000 in
theorem c_Cun_sealEntry (l : Launch) (D : va_G) (ti : Nat → ClassId) (ad : Nat → Nat) (u : MT) (pi ex de : Nat) (xi xb di db fi fb : Int32) (ob reg : Nat → Nat) (kq : Int32 × Bool × Bool × Int32 × Int64) (ca va fv : Int32) (R : Nat → Cap) (k : Nat) (hk : k < 37) : Cg l y_Cun_sealEntry (wl y_Cun_sealEntry b_Cun_sealEntry 3 (some .int)) (rmL 2) D clz (ty4 ti) [.ref (ob 3), .ref ex, .ref (reg k)] (CW ad ti u pi ex de xi xb di db fi fb ob reg kq ca va fv R) (fun _ : Unit => some (.int (-1))) (fun _ => (CW ad ti u pi ex de xi xb di db fi fb ob reg kq ca va fv (uR R (uEn (R k)) xb))) (fun _ => True) := by
  refine Cg.ofF (plainFor_of_name (by decide)) (Nat.le_of_ble_eq_true rfl) ?_
  intro p9 e9 s9 m9 b9 me9 c9 ls S hr hlk hl hw
  obtain ⟨hx, hb, hml, hown, hts⟩ := id S
  have hl : lv_has ls 3 [(0, .ref (ob 3)), (1, .ref ex), (2, .ref (reg k))] := hl
  have hr1 := nR1_lt xb
  have hr2 := nR2_lt xb
  have hrd := nRd_lt xb
  have hk37 : k ≠ 37 := by omega
  refine lv_aload_n hx hb d_Cun_sealEntry_0 rfl (lv_at hl 0 rfl) ?_
  refine q_get S hw ly_Cun 19 rfl rfl 0 (by decide) tb_2_56 rfl rfl d_Cun_sealEntry_1 ?_
  refine q_get S hw ly_Sta 16 rfl rfl 2 (by decide) tb_1_216 rfl rfl d_Cun_sealEntry_4 ?_
  refine lv_aload_n hx hb d_Cun_sealEntry_7 rfl (lv_at hl 2 rfl) ?_
  refine q_cg (q_runV (As := [.ref (reg k)]) (rest := []) S (w_become l D ti ad u pi ex de xi xb di db fi fb ob reg kq ca va fv R (37) (by first | decide | omega) (k) (by first | decide | omega) (by first | decide | omega)) (cw_v hts tb_3_226 k_Cap_become rfl rfl ⟨by decide, by decide⟩) hw (21 + (37)) (CW_at (by first | decide | omega)) rfl rfl hl.1 rfl (Nat.le_of_ble_eq_true rfl) d_Cun_sealEntry_8 ⟨Nat.zero_le _, Nat.zero_le _⟩) hw (fun z hD => CW_D hD) (fun z9 H locs hp9 hw => ?_)
  refine W.eq (g2 := F0 m9 11 ls []) rfl ?_
  have hw : Lv _ _ _ _ _ (CW ad ti u pi ex de xi xb di db fi fb ob reg kq ca va fv (va_up R (37) (R k))) _ _ _ := hw
  refine lv_aload_n hx hb d_Cun_sealEntry_11 rfl (lv_at hl 0 rfl) ?_
  refine q_get S hw ly_Cun 19 rfl rfl 0 (by decide) tb_2_56 rfl rfl d_Cun_sealEntry_12 ?_
  refine q_get S hw ly_Sta 16 rfl rfl 2 (by decide) tb_1_216 rfl rfl d_Cun_sealEntry_15 ?_
  refine lv_bipush (v := 14) hx hb d_Cun_sealEntry_18 (by decide) ?_
  refine q_cg (q_runV (As := [.int (14 : Int32)]) (rest := []) S (w_setType l D ti ad u pi ex de xi xb di db fi fb ob reg kq ca va fv (va_up R (37) (R k)) (37) (by first | decide | omega) (14 : Int32)) (cw_v hts tb_4_15 k_Cap_setType rfl rfl ⟨by decide, by decide⟩) hw (21 + (37)) (CW_at (by first | decide | omega)) rfl rfl hl.1 rfl (Nat.le_of_ble_eq_true rfl) d_Cun_sealEntry_20 ⟨Nat.zero_le _, Nat.zero_le _⟩) hw (fun z hD => CW_D hD) (fun z9 H locs hp9 hw => ?_)
  refine W.eq (g2 := F0 m9 23 ls []) rfl ?_
  have hw : Lv _ _ _ _ _ (CW ad ti u pi ex de xi xb di db fi fb ob reg kq ca va fv (va_up (va_up R (37) (R k)) (37) (cTyC ((va_up R (37) (R k)) 37) (14 : Int32)))) _ _ _ := hw
  refine lv_aload_n hx hb d_Cun_sealEntry_23 rfl (lv_at hl 0 rfl) ?_
  refine q_get S hw ly_Cun 19 rfl rfl 0 (by decide) tb_2_56 rfl rfl d_Cun_sealEntry_24 ?_
  refine q_get S hw ly_Sta 16 rfl rfl 2 (by decide) tb_1_216 rfl rfl d_Cun_sealEntry_27 ?_
  refine q_join (pcJ := 57) (st := [.int (jb (kEn (R k))), .ref (reg 37)]) (lv' := [(0, .ref (ob 3)), (1, .ref ex), (2, .ref (reg k))]) (nL := 3) (fun ls hl => ?_) (fun J57 => ?_)
  · refine q_put (v := .int (jb (kEn (R k)))) S hw ly_Cap t_Cap t_Cap_ok n_Cap (21 + (37)) (CW_at (by first | decide | omega)) rfl 0 (by decide) tb_1_46 rfl rfl (jb_nar (kEn (R k))) (jb_fit (kEn (R k))) (Nat.le_of_ble_eq_true rfl) d_Cun_sealEntry_57 (fun H locs hw => ?_)
    have hw : Lv _ _ _ _ _ (CW ad ti u pi ex de xi xb di db fi fb ob reg kq ca va fv (va_up (va_up (va_up R (37) (R k)) (37) (cTyC ((va_up R (37) (R k)) 37) (14 : Int32))) (37) (((kEn (R k)), ((va_up (va_up R (37) (R k)) (37) (cTyC ((va_up R (37) (R k)) 37) (14 : Int32))) 37).2.1, ((va_up (va_up R (37) (R k)) (37) (cTyC ((va_up R (37) (R k)) 37) (14 : Int32))) 37).2.2) : Cap))) _ _ _ := hw.same (CW_set (by first | decide | omega) (((kEn (R k)), ((va_up (va_up R (37) (R k)) (37) (cTyC ((va_up R (37) (R k)) 37) (14 : Int32))) 37).2.1, ((va_up (va_up R (37) (R k)) (37) (cTyC ((va_up R (37) (R k)) 37) (14 : Int32))) 37).2.2) : Cap))
    refine lv_aload_n hx hb d_Cun_sealEntry_60 rfl (lv_at hl 0 rfl) ?_
    refine q_get S hw ly_Cun 19 rfl rfl 0 (by decide) tb_2_56 rfl rfl d_Cun_sealEntry_61 ?_
    refine lv_aload_n hx hb d_Cun_sealEntry_64 rfl (lv_at hl 1 rfl) ?_
    refine q_get S hw ly_Ins 14 rfl rfl 3 (by decide) tb_1_155 rfl rfl d_Cun_sealEntry_65 ?_
    refine q_cg (q_runV (As := [.int (nI (nRd xb))]) (rest := []) S (c_Sta_answer l D ti ad u pi ex de xi xb di db fi fb ob reg kq ca va fv (va_up (va_up (va_up R (37) (R k)) (37) (cTyC ((va_up R (37) (R k)) 37) (14 : Int32))) (37) (((kEn (R k)), ((va_up (va_up R (37) (R k)) (37) (cTyC ((va_up R (37) (R k)) 37) (14 : Int32))) 37).2.1, ((va_up (va_up R (37) (R k)) (37) (cTyC ((va_up R (37) (R k)) 37) (14 : Int32))) 37).2.2) : Cap)) (nRd xb) (by first | decide | omega)) (cw_v hts tb_3_227 k_Sta_answer rfl rfl ⟨by decide, by decide⟩) hw 16 rfl rfl rfl hl.1 rfl (Nat.le_of_ble_eq_true rfl) d_Cun_sealEntry_68 ⟨Nat.zero_le _, Nat.zero_le _⟩) hw (fun z hD => CW_D (qD_same hD rfl)) (fun z9 H locs hp9 hw => ?_)
    refine W.eq (g2 := F0 m9 71 ls [.int (-1 : Int32)]) rfl ?_
    have hw : Lv _ _ _ _ _ (CW ad ti u pi ex de xi xb di db fi fb ob reg kq ca va fv (aR (va_up (va_up (va_up R (37) (R k)) (37) (cTyC ((va_up R (37) (R k)) 37) (14 : Int32))) (37) (((kEn (R k)), ((va_up (va_up R (37) (R k)) (37) (cTyC ((va_up R (37) (R k)) 37) (14 : Int32))) 37).2.1, ((va_up (va_up R (37) (R k)) (37) (cTyC ((va_up R (37) (R k)) 37) (14 : Int32))) 37).2.2) : Cap)) (nRd xb))) _ _ _ := hw
    exact hw.riz S hr hlk (rfl) d_Cun_sealEntry_71 () (rfl) (trivial) (by simp [uR, up_up, va_up_self, va_up_ne, cMvC, cTyC, hk37, uEn])
  · refine lv_aload_n hx hb d_Cun_sealEntry_30 rfl (lv_at hl 2 rfl) ?_
    refine q_get S hw ly_Cap (21 + (k)) (CW_at (by first | decide | omega)) rfl 0 (by decide) tb_1_46 rfl rfl d_Cun_sealEntry_31 ?_
    refine q_ifz_eq S d_Cun_sealEntry_34 rfl (fun h34 => ?_) (fun h34 => ?_)
    · refine lv_iconst (v := 0) hx hb d_Cun_sealEntry_56 (by decide) ?_
      refine q_topi (z := (jb (kEn (R k)))) (by simp only [up_up, va_up_ne _ _ hk37] at h34; simp [kEn, jb, h34]) ?_
      exact J57 _ (lv_sub (l' := [(0, .ref (ob 3)), (1, .ref ex), (2, .ref (reg k))]) hl [0, 1, 2] rfl)
    · refine lv_aload_n hx hb d_Cun_sealEntry_37 rfl (lv_at hl 2 rfl) ?_
      refine q_cr (q_runV (As := []) (rest := [.ref (reg 37)]) S (w_isOpen l D ti ad u pi ex de xi xb di db fi fb ob reg kq ca va fv (va_up (va_up R (37) (R k)) (37) (cTyC ((va_up R (37) (R k)) 37) (14 : Int32))) (k) (by first | decide | omega)) (cw_v hts tb_4_2 k_Cap_isOpen rfl rfl ⟨by decide, by decide⟩) hw (21 + (k)) (CW_at (by first | decide | omega)) rfl rfl hl.1 rfl (Nat.le_of_ble_eq_true rfl) d_Cun_sealEntry_38 ⟨Nat.zero_le _, Nat.zero_le _⟩) ?_
      refine W.eq (g2 := F0 m9 41 ls [.int (jb (cOpen ((va_up (va_up R (37) (R k)) (37) (cTyC ((va_up R (37) (R k)) 37) (14 : Int32))) k).2.2)), .ref (reg 37)]) rfl ?_
      refine q_ifz_eq S d_Cun_sealEntry_41 rfl (fun h41 => ?_) (fun h41 => ?_)
      · refine lv_iconst (v := 0) hx hb d_Cun_sealEntry_56 (by decide) ?_
        refine q_topi (z := (jb (kEn (R k)))) (by simp only [up_up, va_up_ne _ _ hk37] at h34 h41; simp [kEn, jb, h34, h41]) ?_
        exact J57 _ (lv_sub (l' := [(0, .ref (ob 3)), (1, .ref ex), (2, .ref (reg k))]) hl [0, 1, 2] rfl)
      · refine lv_aload_n hx hb d_Cun_sealEntry_44 rfl (lv_at hl 2 rfl) ?_
        refine lv_iconst (v := 1) hx hb d_Cun_sealEntry_45 (by decide) ?_
        refine q_cr (q_runV (As := [.int (1 : Int32)]) (rest := [.ref (reg 37)]) S (w_may l D ti ad u pi ex de xi xb di db fi fb ob reg kq ca va fv (va_up (va_up R (37) (R k)) (37) (cTyC ((va_up R (37) (R k)) 37) (14 : Int32))) (k) (by first | decide | omega) (1 : Int32)) (cw_v hts tb_3_224 k_Cap_may rfl rfl ⟨by decide, by decide⟩) hw (21 + (k)) (CW_at (by first | decide | omega)) rfl rfl hl.1 rfl (Nat.le_of_ble_eq_true rfl) d_Cun_sealEntry_46 ⟨Nat.zero_le _, Nat.zero_le _⟩) ?_
        refine W.eq (g2 := F0 m9 49 ls [.int (jb (cMay ((va_up (va_up R (37) (R k)) (37) (cTyC ((va_up R (37) (R k)) 37) (14 : Int32))) k).2.2 (1 : Int32))), .ref (reg 37)]) rfl ?_
        refine q_ifz_eq S d_Cun_sealEntry_49 rfl (fun h49 => ?_) (fun h49 => ?_)
        · refine lv_iconst (v := 0) hx hb d_Cun_sealEntry_56 (by decide) ?_
          refine q_topi (z := (jb (kEn (R k)))) (by simp only [up_up, va_up_ne _ _ hk37] at h34 h41 h49; simp [kEn, jb, h34, h41, h49]) ?_
          exact J57 _ (lv_sub (l' := [(0, .ref (ob 3)), (1, .ref ex), (2, .ref (reg k))]) hl [0, 1, 2] rfl)
        · refine lv_iconst (v := 1) hx hb d_Cun_sealEntry_52 (by decide) ?_
          refine lv_goto hx hb d_Cun_sealEntry_53 rfl ?_
          refine q_topi (z := (jb (kEn (R k)))) (by simp only [up_up, va_up_ne _ _ hk37] at h34 h41 h49; simp [kEn, jb, h34, h41, h49]) ?_
          exact J57 _ (lv_sub (l' := [(0, .ref (ob 3)), (1, .ref ex), (2, .ref (reg k))]) hl [0, 1, 2] rfl)
