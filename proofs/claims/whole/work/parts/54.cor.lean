/-! CheriCore: the world of the whole object, and what a step does. -/
theorem app_at {A Y : va_W} {i : Nat} {x : Nat × va_E} (h : A[i]? = some x) : (A ++ Y)[i]? = some x := by
  rw [List.getElem?_append_left (List.getElem?_eq_some_iff.mp h).1]
  exact h
def KT (ti : Nat → ClassId) (co : Nat) (ob reg : Nat → Nat) (kp : Int32 × Bool × Bool × Int32 × Int64) (rc st tr : Int32) (ha : Bool) : va_W :=
  [(co, .inr (10, [.ref (ob 0), .ref (ob 2), .ref (ob 3), .ref (ob 5), .ref (reg 39), .ref (ob 6), .int rc, .int st, .int tr, .int (jb ha)])), (ob 5, pkT kp), (ob 6, .inl (ti 3, 8, .inr (.inr (.inr (.inr (fun j => some (reg (40 + j))))))))]
theorem CW_69 (ad : Nat → Nat) (ti : Nat → ClassId) (u : MT) (pi ex de : Nat) (xi xb di db fi fb : Int32) (ob reg : Nat → Nat) (kq : Int32 × Bool × Bool × Int32 × Int64) (ca va fv : Int32) (R : Nat → Cap) : (CW ad ti u pi ex de xi xb di db fi fb ob reg kq ca va fv R).length = 69 := by
  rw [CW_X, List.length_append]
  have : (cpool reg R).length = 48 := by simp [cpool]
  rw [this]
  rfl
theorem CW_ln {ti ti' : Nat → ClassId} {ad : Nat → Nat} {u : MT} {pi ex de : Nat} {xi xb di db fi fb : Int32} {ob reg : Nat → Nat} {kq : Int32 × Bool × Bool × Int32 × Int64} {ca va fv : Int32} {R : Nat → Cap} {ad' : Nat → Nat} {u' : MT} {pi' ex' de' : Nat} {xi' xb' di' db' fi' fb' : Int32} {ob' reg' : Nat → Nat} {kq' : Int32 × Bool × Bool × Int32 × Int64} {ca' va' fv' : Int32} {R' : Nat → Cap} : (CW ad ti u pi ex de xi xb di db fi fb ob reg kq ca va fv R).length = (CW ad' ti' u' pi' ex' de' xi' xb' di' db' fi' fb' ob' reg' kq' ca' va' fv' R').length := (CW_69 ..).trans (CW_69 ..).symm
theorem CW_fst (ad : Nat → Nat) (ti : Nat → ClassId) (u : MT) (pi ex de : Nat) (xi xb di db fi fb : Int32) (ob reg : Nat → Nat) (kq : Int32 × Bool × Bool × Int32 × Int64) (ca va fv : Int32) (R : Nat → Cap) : (CW ad ti u pi ex de xi xb di db fi fb ob reg kq ca va fv R).map (fun q => q.1) = [ad 0, ad 1, ad 2, ad 3, ad 4, ad 5, ad 6, ad 7, ad 8, ad 9, ad 10, ad 11, ad 12, pi, ex, de, ob 0, ob 1, ob 2, ob 3, ob 4] ++ (List.range 48).map reg := by
  rw [CW_X, List.map_append]
  congr 1
theorem KW_D {A : Nat → Prop} {co : Nat} {ti : Nat → ClassId} {ad ob reg : Nat → Nat} {pi ex de : Nat} {u u' : MT} {xi xb di db fi fb xi' xb' di' db' fi' fb' : Int32} {kq kq' kp kp' : Int32 × Bool × Bool × Int32 × Int64} {ca va fv ca' va' fv' rc st tr rc' st' tr' : Int32} {ha ha' : Bool} {R R' : Nat → Cap}
    (h : va_D A (CW ad ti u pi ex de xi xb di db fi fb ob reg kq ca va fv R ++ KT ti co ob reg kp rc st tr ha)) : va_D A (CW ad ti u' pi ex de xi' xb' di' db' fi' fb' ob reg kq' ca' va' fv' R' ++ KT ti co ob reg kp' rc' st' tr' ha') :=
  qD_same h (by rw [List.map_append, List.map_append, CW_fst, CW_fst]; rfl)
theorem swq_D {A : Nat → Prop} {X Y : va_W} {a b : Nat × va_E} (h : va_D A (X ++ a :: b :: Y)) : va_D A (X ++ b :: a :: Y) := by
  refine va_D.by h (fun k => if k = X.length then X.length + 1 else if k = X.length + 1 then X.length else k) (fun k q hk => ?_) (fun i j _ _ e => ?_)
  · by_cases h1 : k = X.length
    · subst h1
      rw [List.getElem?_append_right (Nat.le_refl _), Nat.sub_self] at hk
      show (X ++ a :: b :: Y)[if X.length = X.length then X.length + 1 else _]? = some q
      rw [if_pos rfl, List.getElem?_append_right (by omega), Nat.add_sub_cancel_left]
      simpa using hk
    · by_cases h2 : k = X.length + 1
      · subst h2
        rw [List.getElem?_append_right (by omega), Nat.add_sub_cancel_left] at hk
        show (X ++ a :: b :: Y)[if X.length + 1 = X.length then _ else if X.length + 1 = X.length + 1 then X.length else _]? = some q
        rw [if_neg h1, if_pos rfl, List.getElem?_append_right (Nat.le_refl _), Nat.sub_self]
        simpa using hk
      · show (X ++ a :: b :: Y)[if k = X.length then _ else if k = X.length + 1 then _ else k]? = some q
        rw [if_neg h1, if_neg h2]
        by_cases h3 : k < X.length
        · rw [List.getElem?_append_left h3] at hk ⊢
          exact hk
        · rw [List.getElem?_append_right (by omega)] at hk ⊢
          obtain ⟨n, hn⟩ : ∃ n, k - X.length = n + 2 := ⟨k - X.length - 2, by omega⟩
          rw [hn] at hk ⊢
          simpa using hk
  · split at e <;> split at e <;> (try split at e) <;> (try split at e) <;> omega
theorem KW_sw {A : Nat → Prop} {co : Nat} {ti : Nat → ClassId} {ad ob reg : Nat → Nat} {pi ex de : Nat} {u u' : MT} {xi xb di db fi fb xi' xb' di' db' fi' fb' : Int32} {kq kq' kp kp' : Int32 × Bool × Bool × Int32 × Int64} {ca va fv ca' va' fv' rc st tr rc' st' tr' : Int32} {ha ha' : Bool} {R R' : Nat → Cap}
    (h : va_D A (CW ad ti u pi ex de xi xb di db fi fb ob reg kq ca va fv R ++ KT ti co ob reg kp rc st tr ha)) : va_D A (CW ad ti u' pi de ex xi' xb' di' db' fi' fb' ob reg kq' ca' va' fv' R' ++ KT ti co ob reg kp' rc' st' tr' ha') := by
  have h1 : va_D A ((MWt ad ti u ++ [(pi, .inr (6, [.ref (ad 0), .ref ex, .ref de, .int fi, .int fb]))]) ++ (ex, insD xi xb) :: (de, insD di db) :: (CT5 ad ti pi ob reg kq ca va fv ++ cpool reg R ++ KT ti co ob reg kp rc st tr ha)) := qD_same h (by rfl)
  exact qD_same (swq_D h1) (by rfl)
abbrev KS : Type := Int32 × Int32 × Int32 × (Nat → Cap) × (Nat → Int32) × (Nat → Int32) × Int32 × Bool
abbrev KS.fv (s : KS) : Int32 := s.1
abbrev KS.ca (s : KS) : Int32 := s.2.1
abbrev KS.va (s : KS) : Int32 := s.2.2.1
abbrev KS.R (s : KS) : Nat → Cap := s.2.2.2.1
abbrev KS.w (s : KS) : Nat → Int32 := s.2.2.2.2.1
abbrev KS.g (s : KS) : Nat → Int32 := s.2.2.2.2.2.1
abbrev KS.tr (s : KS) : Int32 := s.2.2.2.2.2.2.1
abbrev KS.ha (s : KS) : Bool := s.2.2.2.2.2.2.2
def kTR (R : Nat → Cap) : Nat → Cap := va_up (va_up R 36 (R 32)) 32 (va_up R 36 (R 32) 33)
def kHa (fv : Int32) (R : Nat → Cap) : Bool := if (pcF fv (kTR R 32)).1 = -1 then false else true
def kTrap (c : Int32) (s : KS) : KS := ⟨(pcF s.fv (kTR s.R 32)).2, c, s.fv, kTR s.R, s.w, s.g, s.tr + 1, kHa s.fv s.R⟩
def kNext (s : KS) : KS := ⟨s.fv, s.ca, s.va, va_up s.R 32 (cMvC (s.R 32) ((s.R 32).2.1 + 4)), s.w, s.g, s.tr, s.ha⟩
def kFin (c : Int32) (s : KS) : KS := if c < 0 then (if c = -2 then s else kNext s) else kTrap c s
abbrev ofX (o : XC) (tr : Int32) (ha : Bool) : KS := ⟨o.2.1, o.2.2.2.1, o.2.2.2.2.1, o.2.2.1, o.2.2.2.2.2.1, o.2.2.2.2.2.2, tr, ha⟩
def kX (fv ca va : Int32) (R : Nat → Cap) (w g : Nat → Int32) (x : Int32) : XC := if nI (nOp x) = 91 then xoc (xU fv R x) ca va w g else xB fv ca va R w g x
def kX' (s : KS) : XC := kX (pcF s.fv (s.R 32)).2 s.ca s.va s.R s.w s.g (s.w ((s.R 32).2.1.toNatClampNeg / 4))
def kStep (s : KS) : KS := if (pcF s.fv (s.R 32)).1 = -1 then kFin (kX' s).1 (ofX (kX' s) s.tr s.ha) else kFin (pcF s.fv (s.R 32)).1 ⟨(pcF s.fv (s.R 32)).2, s.ca, s.va, s.R, s.w, s.g, s.tr, s.ha⟩
theorem kStep_f {s : KS} (h : ¬ (pcF s.fv (s.R 32)).1 = -1) : kStep s = kFin (pcF s.fv (s.R 32)).1 ⟨(pcF s.fv (s.R 32)).2, s.ca, s.va, s.R, s.w, s.g, s.tr, s.ha⟩ := if_neg h
theorem kStep_u {s : KS} {k : Nat} (h : (pcF s.fv (s.R 32)).1 = -1) (e : (s.R 32).2.1.toNatClampNeg / 4 = k) (h1 : nI (nOp (s.w k)) = 91) : kStep s = kFin (xU (pcF s.fv (s.R 32)).2 s.R (s.w k)).1 (ofX (xoc (xU (pcF s.fv (s.R 32)).2 s.R (s.w k)) s.ca s.va s.w s.g) s.tr s.ha) := by
  subst e
  rw [kStep, if_pos h, kX', kX, if_pos h1]
  rfl
theorem kStep_b {s : KS} {k : Nat} (h : (pcF s.fv (s.R 32)).1 = -1) (e : (s.R 32).2.1.toNatClampNeg / 4 = k) (h1 : ¬ nI (nOp (s.w k)) = 91) : kStep s = kFin (xB (pcF s.fv (s.R 32)).2 s.ca s.va s.R s.w s.g (s.w k)).1 (ofX (xB (pcF s.fv (s.R 32)).2 s.ca s.va s.R s.w s.g (s.w k)) s.tr s.ha) := by
  subst e
  rw [kStep, if_pos h, kX', kX, if_neg h1]
theorem kFin_t {c : Int32} {s : KS} (h : ¬ c < 0) : kFin c s = kTrap c s := if_neg h
theorem kFin_j {c : Int32} {s : KS} (h : c < 0) (h2 : c = -2) : kFin c s = s := by rw [kFin, if_pos h, if_pos h2]
theorem kFin_n {c : Int32} {s : KS} (h : c < 0) (h2 : ¬ c = -2) : kFin c s = kNext s := by rw [kFin, if_pos h, if_neg h2]
theorem pcF_ok {fv : Int32} {c : Cap} (h : (pcF fv c).1 = -1) : ∃ X, X < 16384 ∧ c.2.1 = nI X ∧ X % 4 = 0 := by
  unfold pcF at h
  split at h
  · obtain ⟨⟨X, hX, eX⟩, _, e⟩ := plF_ok h (by decide) (by decide)
    refine ⟨X, hX, eX, ?_⟩
    rw [eX] at e
    have h1 : nI X &&& (4 - 1) = nI (X % 2 ^ 2) := pk_andN (by omega) 2 rfl
    rw [h1] at e
    exact nI_inj (a := X % 2 ^ 2) (b := 0) (by omega) (by decide) e
  · exact absurd h (show ¬ (28 : Int32) = -1 by decide)
def isW (x : Int32) : Bool := if x < 0 then false else if 4096 ≤ x then false else true
theorem isW_ok {i : Nat} (h : i < 4096) : isW (nI i) = true := by
  unfold isW
  rw [if_neg (nI_pos (by omega)), if_neg (show ¬ (4096 : Int32) ≤ nI i from nI_ge (b := 4096) h (by decide))]
def fitS (b : Int32) (n : Int64) : Bool := if n < 0 then false else if 4294967296 - cLow b < n then false else true
theorem w_advance (l : Launch) (D : va_G) (ti : Nat → ClassId) (ad : Nat → Nat) (u : MT) (pi ex de : Nat) (xi xb di db fi fb : Int32) (ob reg : Nat → Nat) (kq : Int32 × Bool × Bool × Int32 × Int64) (ca va fv : Int32) (R : Nat → Cap) (w g : Nat → Int32) (hM : MIt u w g) (hD : PF di db w) (hF : PF fi fb w) (k : Nat) (hk : k < 4096) : Cg l y_Pip_advance (wl y_Pip_advance b_Pip_advance 3 (some (.object "CheriCore$Instruction"))) (rmL 4) D clz (ty4 ti) [.ref pi, .int (nI k)] (CW ad ti u pi ex de xi xb di db fi fb ob reg kq ca va fv R) (fun z : MT × Int32 × Int32 × Int32 × Int32 => some (.ref de)) (fun z => CW ad ti z.1 pi de ex (nI k) (w k) z.2.1 z.2.2.1 z.2.2.2.1 z.2.2.2.2 ob reg kq ca va fv R) (fun z => MIt z.1 w g ∧ PF z.2.1 z.2.2.1 w ∧ PF z.2.2.2.1 z.2.2.2.2 w) :=
  (c_Pip_advance l D ti ad u pi ex de xi xb di db fi fb w g hM hD hF k hk).front (fun _ => rfl) (CT5 ad ti pi ob reg kq ca va fv ++ cpool reg R)
set_option maxHeartbeats 4000000 in
set_option maxRecDepth 100000 in
theorem c_Cor_isWord (l : Launch) (D : va_G) (tys : List (ClassId × FieldType)) (x : Int32) : Cr l y_Cor_isWord (wl y_Cor_isWord b_Cor_isWord 1 (some .boolean)) (rmL 0) D clz tys [.int x] [] (some (.int (jb (isW x)))) := by
  refine Cr.ofF (plainFor_of_name (by decide)) (Nat.le_of_ble_eq_true rfl) ?_
  intro p9 e9 s9 m9 b9 me9 c9 ls S hr hlk hl hw
  obtain ⟨hx, hb, hml, hown, hts⟩ := id S
  have hl : lv_has ls 1 [(0, .int x)] := hl
  refine lv_iload_n hx hb d_Cor_isWord_0 rfl (lv_at hl 0 rfl) ?_
  refine lv_if_lt hx hb d_Cor_isWord_1 rfl (fun h1 => ?_) (fun h1 => ?_)
  · refine lv_iconst (v := 0) hx hb d_Cor_isWord_15 (by decide) ?_
    exact rd_i S hr hlk rfl d_Cor_isWord_16 (by simp [isW, jb, h1])
  · refine lv_iload_n hx hb d_Cor_isWord_4 rfl (lv_at hl 0 rfl) ?_
    refine lv_sipush (v := 4096) hx hb d_Cor_isWord_5 (by decide) ?_
    refine lv_icmp_ge hx hb d_Cor_isWord_8 rfl (fun h8 => ?_) (fun h8 => ?_)
    · refine lv_iconst (v := 0) hx hb d_Cor_isWord_15 (by decide) ?_
      exact rd_i S hr hlk rfl d_Cor_isWord_16 (by simp [isW, jb, h1, h8])
    · refine lv_iconst (v := 1) hx hb d_Cor_isWord_11 (by decide) ?_
      refine lv_goto hx hb d_Cor_isWord_12 rfl ?_
      exact rd_i S hr hlk rfl d_Cor_isWord_16 (by simp [isW, jb, h1, h8])
set_option maxHeartbeats 4000000 in
set_option maxRecDepth 100000 in
theorem c_Cor_fitsSpace (l : Launch) (D : va_G) (tys : List (ClassId × FieldType)) (b : Int32) (n : Int64) : Cr l y_Cor_fitsSpace (wl y_Cor_fitsSpace b_Cor_fitsSpace 3 (some .boolean)) (rmL 0) D clz tys [.int b, .long n] [] (some (.int (jb (fitS b n)))) := by
  refine Cr.ofF (plainFor_of_name (by decide)) (Nat.le_of_ble_eq_true rfl) ?_
  intro p9 e9 s9 m9 b9 me9 c9 ls S hr hlk hl hw
  obtain ⟨hx, hb, hml, hown, hts⟩ := id S
  have hl : lv_has ls 3 [(0, .int b), (1, .long n)] := hl
  refine lv_lload_n hx hb d_Cor_fitsSpace_0 rfl (lv_at hl 1 rfl) ?_
  refine lv_lconst (v := 0) hx hb d_Cor_fitsSpace_1 (by decide) ?_
  refine q_lc_lt S d_Cor_fitsSpace_2 d_Cor_fitsSpace_3 rfl (fun h3 => ?_) (fun h3 => ?_)
  · refine lv_iconst (v := 0) hx hb d_Cor_fitsSpace_25 (by decide) ?_
    exact rd_i S hr hlk rfl d_Cor_fitsSpace_26 (by simp [fitS, jb, cLow, h3])
  · refine lv_lload_n hx hb d_Cor_fitsSpace_6 rfl (lv_at hl 1 rfl) ?_
    refine lv_ldc2 (v := 4294967296) hx hb hown (hts _ tb_3_77) d_Cor_fitsSpace_7 ?_
    refine lv_iload_n hx hb d_Cor_fitsSpace_10 rfl (lv_at hl 0 rfl) ?_
    refine lv_i2l (v := (b.toInt64)) hx hb d_Cor_fitsSpace_11 rfl ?_
    refine lv_ldc2 (v := 4294967295) hx hb hown (hts _ tb_3_78) d_Cor_fitsSpace_12 ?_
    refine lv_land hx hb d_Cor_fitsSpace_15 ?_
    refine lv_lsub hx hb d_Cor_fitsSpace_16 ?_
    refine q_lc_gt S d_Cor_fitsSpace_17 d_Cor_fitsSpace_18 rfl (fun h18 => ?_) (fun h18 => ?_)
    · refine lv_iconst (v := 0) hx hb d_Cor_fitsSpace_25 (by decide) ?_
      exact rd_i S hr hlk rfl d_Cor_fitsSpace_26 (by simp [fitS, jb, cLow, h3, h18])
    · refine lv_iconst (v := 1) hx hb d_Cor_fitsSpace_21 (by decide) ?_
      refine lv_goto hx hb d_Cor_fitsSpace_22 rfl ?_
      exact rd_i S hr hlk rfl d_Cor_fitsSpace_26 (by simp [fitS, jb, cLow, h3, h18])
set_option maxHeartbeats 4000000 in
set_option maxRecDepth 100000 in
theorem c_Cor_takeTrap (l : Launch) (D : va_G) (ti : Nat → ClassId) (ad : Nat → Nat) (u : MT) (pi ex de : Nat) (xi xb di db fi fb : Int32) (ob reg : Nat → Nat) (kq : Int32 × Bool × Bool × Int32 × Int64) (ca va fv : Int32) (R : Nat → Cap) (co : Nat) (kp : Int32 × Bool × Bool × Int32 × Int64) (rc st tr : Int32) (ha : Bool) (c : Int32) : Cg l y_Cor_takeTrap (wl y_Cor_takeTrap b_Cor_takeTrap 2 none) (rmL 4) D clz (ty4 ti) [.ref co, .int c] ((CW ad ti u pi ex de xi xb di db fi fb ob reg kq ca va fv R) ++ (KT ti co ob reg kp rc st tr ha)) (fun _ : Unit => none) (fun _ => ((CW ad ti u pi ex de xi xb di db fi fb ob reg kq c fv ((pcF fv (kTR R 32)).2) (kTR R)) ++ (KT ti co ob reg kp rc st (tr + 1) (kHa fv R)))) (fun _ => True) := by
  refine Cg.ofF (plainFor_of_name (by decide)) (Nat.le_of_ble_eq_true rfl) ?_
  intro p9 e9 s9 m9 b9 me9 c9 ls S hr hlk hl hw
  obtain ⟨hx, hb, hml, hown, hts⟩ := id S
  have hl : lv_has ls 2 [(0, .ref co), (1, .int c)] := hl
  refine lv_aload_n hx hb d_Cor_takeTrap_0 rfl (lv_at hl 0 rfl) ?_
  refine lv_dup hx hb d_Cor_takeTrap_1 rfl ?_
  refine q_get S hw ly_Cor 69 rfl rfl 8 (by decide) tb_2_75 rfl rfl d_Cor_takeTrap_2 ?_
  refine lv_iconst (v := 1) hx hb d_Cor_takeTrap_5 (by decide) ?_
  refine lv_iadd hx hb d_Cor_takeTrap_6 ?_
  refine q_put (v := .int (tr + (1 : Int32))) S hw ly_Cor t_Cor t_Cor_ok n_Cor 69 rfl rfl 8 (by decide) tb_2_75 rfl rfl rfl rfl (Nat.le_of_ble_eq_true rfl) d_Cor_takeTrap_7 (fun H locs hw => ?_)
  have hw : Lv _ _ _ _ _ ((CW ad ti u pi ex de xi xb di db fi fb ob reg kq ca va fv R) ++ (KT ti co ob reg kp rc st (tr + (1 : Int32)) ha)) _ _ _ := hw
  refine lv_aload_n hx hb d_Cor_takeTrap_10 rfl (lv_at hl 0 rfl) ?_
  refine q_get S hw ly_Cor 69 rfl rfl 0 (by decide) tb_2_67 rfl rfl d_Cor_takeTrap_11 ?_
  refine lv_iload_n hx hb d_Cor_takeTrap_14 rfl (lv_at hl 1 rfl) ?_
  refine q_put (v := .int c) S hw ly_Sta t_Sta t_Sta_ok n_Sta 16 rfl rfl 5 (by decide) tb_1_223 rfl rfl rfl rfl (Nat.le_of_ble_eq_true rfl) d_Cor_takeTrap_15 (fun H locs hw => ?_)
  have hw : Lv _ _ _ _ _ ((CW ad ti u pi ex de xi xb di db fi fb ob reg kq c va fv R) ++ (KT ti co ob reg kp rc st (tr + (1 : Int32)) ha)) _ _ _ := hw
  refine lv_aload_n hx hb d_Cor_takeTrap_18 rfl (lv_at hl 0 rfl) ?_
  refine q_get S hw ly_Cor 69 rfl rfl 0 (by decide) tb_2_67 rfl rfl d_Cor_takeTrap_19 ?_
  refine lv_aload_n hx hb d_Cor_takeTrap_22 rfl (lv_at hl 0 rfl) ?_
  refine q_get S hw ly_Cor 69 rfl rfl 0 (by decide) tb_2_67 rfl rfl d_Cor_takeTrap_23 ?_
  refine q_get S hw ly_Sta 16 rfl rfl 7 (by decide) tb_1_228 rfl rfl d_Cor_takeTrap_26 ?_
  refine q_put (v := .int fv) S hw ly_Sta t_Sta t_Sta_ok n_Sta 16 rfl rfl 6 (by decide) tb_1_225 rfl rfl rfl rfl (Nat.le_of_ble_eq_true rfl) d_Cor_takeTrap_29 (fun H locs hw => ?_)
  have hw : Lv _ _ _ _ _ ((CW ad ti u pi ex de xi xb di db fi fb ob reg kq c fv fv R) ++ (KT ti co ob reg kp rc st (tr + (1 : Int32)) ha)) _ _ _ := hw
  refine lv_aload_n hx hb d_Cor_takeTrap_32 rfl (lv_at hl 0 rfl) ?_
  refine q_get S hw ly_Cor 69 rfl rfl 0 (by decide) tb_2_67 rfl rfl d_Cor_takeTrap_33 ?_
  refine q_get S hw ly_Sta 16 rfl rfl 0 (by decide) tb_1_208 rfl rfl d_Cor_takeTrap_36 ?_
  refine lv_bipush (v := 36) hx hb d_Cor_takeTrap_39 (by decide) ?_
  refine q_aaldN (k := 36) S hw 17 3 rfl rfl (by first | assumption | omega) (by decide) d_Cor_takeTrap_41 ?_
  refine lv_aload_n hx hb d_Cor_takeTrap_42 rfl (lv_at hl 0 rfl) ?_
  refine q_get S hw ly_Cor 69 rfl rfl 0 (by decide) tb_2_67 rfl rfl d_Cor_takeTrap_43 ?_
  refine q_get S hw ly_Sta 16 rfl rfl 1 (by decide) tb_1_213 rfl rfl d_Cor_takeTrap_46 ?_
  refine q_cg (q_runV (As := [.ref (reg 32)]) (rest := []) S ((w_become l D ti ad u pi ex de xi xb di db fi fb ob reg kq c fv fv R (36) (by first | decide | omega) (32) (by first | decide | omega) (by first | decide | omega)).front (fun _ => CW_ln) (KT ti co ob reg kp rc st (tr + (1 : Int32)) ha)) (cw_v hts tb_3_130 k_Cap_become rfl rfl ⟨by decide, by decide⟩) hw (21 + (36)) (app_at (CW_at (by first | decide | omega))) rfl rfl hl.1 rfl (Nat.le_of_ble_eq_true rfl) d_Cor_takeTrap_49 ⟨Nat.zero_le _, Nat.zero_le _⟩) hw (fun z hD => KW_D hD) (fun z9 H locs hp9 hw => ?_)
  refine W.eq (g2 := F0 m9 52 ls []) rfl ?_
  have hw : Lv _ _ _ _ _ ((CW ad ti u pi ex de xi xb di db fi fb ob reg kq c fv fv (va_up R (36) (R 32))) ++ (KT ti co ob reg kp rc st (tr + (1 : Int32)) ha)) _ _ _ := hw
  refine lv_aload_n hx hb d_Cor_takeTrap_52 rfl (lv_at hl 0 rfl) ?_
  refine q_get S hw ly_Cor 69 rfl rfl 0 (by decide) tb_2_67 rfl rfl d_Cor_takeTrap_53 ?_
  refine q_get S hw ly_Sta 16 rfl rfl 1 (by decide) tb_1_213 rfl rfl d_Cor_takeTrap_56 ?_
  refine lv_aload_n hx hb d_Cor_takeTrap_59 rfl (lv_at hl 0 rfl) ?_
  refine q_get S hw ly_Cor 69 rfl rfl 0 (by decide) tb_2_67 rfl rfl d_Cor_takeTrap_60 ?_
  refine q_get S hw ly_Sta 16 rfl rfl 0 (by decide) tb_1_208 rfl rfl d_Cor_takeTrap_63 ?_
  refine lv_bipush (v := 33) hx hb d_Cor_takeTrap_66 (by decide) ?_
  refine q_aaldN (k := 33) S hw 17 3 rfl rfl (by first | assumption | omega) (by decide) d_Cor_takeTrap_68 ?_
  refine q_cg (q_runV (As := [.ref (reg 33)]) (rest := []) S ((w_become l D ti ad u pi ex de xi xb di db fi fb ob reg kq c fv fv (va_up R (36) (R 32)) (32) (by first | decide | omega) (33) (by first | decide | omega) (by first | decide | omega)).front (fun _ => CW_ln) (KT ti co ob reg kp rc st (tr + (1 : Int32)) ha)) (cw_v hts tb_3_130 k_Cap_become rfl rfl ⟨by decide, by decide⟩) hw (21 + (32)) (app_at (CW_at (by first | decide | omega))) rfl rfl hl.1 rfl (Nat.le_of_ble_eq_true rfl) d_Cor_takeTrap_69 ⟨Nat.zero_le _, Nat.zero_le _⟩) hw (fun z hD => KW_D hD) (fun z9 H locs hp9 hw => ?_)
  refine W.eq (g2 := F0 m9 72 ls []) rfl ?_
  have hw : Lv _ _ _ _ _ ((CW ad ti u pi ex de xi xb di db fi fb ob reg kq c fv fv (va_up (va_up R (36) (R 32)) (32) ((va_up R (36) (R 32)) 33))) ++ (KT ti co ob reg kp rc st (tr + (1 : Int32)) ha)) _ _ _ := hw
  refine lv_aload_n hx hb d_Cor_takeTrap_72 rfl (lv_at hl 0 rfl) ?_
  refine lv_aload_n hx hb d_Cor_takeTrap_73 rfl (lv_at hl 0 rfl) ?_
  refine q_get S hw ly_Cor 69 rfl rfl 0 (by decide) tb_2_67 rfl rfl d_Cor_takeTrap_74 ?_
  refine q_cg (q_runV (As := []) (rest := [.ref co]) S ((c_Sta_pccFault l D ti ad u pi ex de xi xb di db fi fb ob reg kq c fv fv (va_up (va_up R (36) (R 32)) (32) ((va_up R (36) (R 32)) 33))).front (fun _ => CW_ln) (KT ti co ob reg kp rc st (tr + (1 : Int32)) ha)) (cw_v hts tb_3_154 k_Sta_pccFault rfl rfl ⟨by decide, by decide⟩) hw 16 rfl rfl rfl hl.1 rfl (Nat.le_of_ble_eq_true rfl) d_Cor_takeTrap_77 ⟨Nat.zero_le _, Nat.zero_le _⟩) hw (fun z hD => KW_D hD) (fun z9 H locs hp9 hw => ?_)
  refine W.eq (g2 := F0 m9 80 ls [.int ((pcF fv ((va_up (va_up R (36) (R 32)) (32) ((va_up R (36) (R 32)) 33)) 32)).1), .ref co]) rfl ?_
  have hw : Lv _ _ _ _ _ ((CW ad ti u pi ex de xi xb di db fi fb ob reg kq c fv ((pcF fv ((va_up (va_up R (36) (R 32)) (32) ((va_up R (36) (R 32)) 33)) 32)).2) (va_up (va_up R (36) (R 32)) (32) ((va_up R (36) (R 32)) 33))) ++ (KT ti co ob reg kp rc st (tr + (1 : Int32)) ha)) _ _ _ := hw
  refine q_join (pcJ := 89) (st := [.int (jb (kHa fv R)), .ref co]) (lv' := [(0, .ref co), (1, .int c)]) (nL := 2) (fun ls hl => ?_) (fun J89 => ?_)
  · refine q_put (v := .int (jb (kHa fv R))) S hw ly_Cor t_Cor t_Cor_ok n_Cor 69 rfl rfl 9 (by decide) tb_2_76 rfl rfl (jb_nar (kHa fv R)) (jb_fit (kHa fv R)) (Nat.le_of_ble_eq_true rfl) d_Cor_takeTrap_89 (fun H locs hw => ?_)
    have hw : Lv _ _ _ _ _ ((CW ad ti u pi ex de xi xb di db fi fb ob reg kq c fv ((pcF fv ((va_up (va_up R (36) (R 32)) (32) ((va_up R (36) (R 32)) 33)) 32)).2) (va_up (va_up R (36) (R 32)) (32) ((va_up R (36) (R 32)) 33))) ++ (KT ti co ob reg kp rc st (tr + (1 : Int32)) (kHa fv R))) _ _ _ := hw
    exact hw.rv S hr hlk d_Cor_takeTrap_92 () (rfl) (trivial) (rfl)
  · refine lv_iconst (v := -1) hx hb d_Cor_takeTrap_80 (by decide) ?_
    refine lv_icmp_eq hx hb d_Cor_takeTrap_81 rfl (fun h81 => ?_) (fun h81 => ?_)
    · refine lv_iconst (v := 0) hx hb d_Cor_takeTrap_88 (by decide) ?_
      refine q_topi (z := (jb (kHa fv R))) (by simp [kHa, kTR, jb, h81]) ?_
      exact J89 _ (lv_sub (l' := [(0, .ref co), (1, .int c)]) hl [0, 1] rfl)
    · refine lv_iconst (v := 1) hx hb d_Cor_takeTrap_84 (by decide) ?_
      refine lv_goto hx hb d_Cor_takeTrap_85 rfl ?_
      refine q_topi (z := (jb (kHa fv R))) (by simp [kHa, kTR, jb, h81]) ?_
      exact J89 _ (lv_sub (l' := [(0, .ref co), (1, .int c)]) hl [0, 1] rfl)
set_option maxHeartbeats 4000000 in
set_option maxRecDepth 100000 in
theorem c_Cor_step (l : Launch) (D : va_G) (ti : Nat → ClassId) (ad : Nat → Nat) (u : MT) (pi ex de : Nat) (xi xb di db fi fb : Int32) (ob reg : Nat → Nat) (kq : Int32 × Bool × Bool × Int32 × Int64) (ca va fv : Int32) (R : Nat → Cap) (co : Nat) (kp : Int32 × Bool × Bool × Int32 × Int64) (rc st tr : Int32) (ha : Bool) (w g : Nat → Int32) (hM : MIt u w g) (hD : PF di db w) (hF : PF fi fb w) : Cg l y_Cor_step (wl y_Cor_step b_Cor_step 3 none) (rmL 7) D clz (ty4 ti) [.ref co] ((CW ad ti u pi ex de xi xb di db fi fb ob reg kq ca va fv R) ++ (KT ti co ob reg kp rc st tr ha)) (fun z : MT × Bool × Int32 × Int32 × Int32 × Int32 × Int32 × Int32 × (Int32 × Bool × Bool × Int32 × Int64) => none) (fun z => ((CW ad ti z.1 pi (cond z.2.1 de ex) (cond z.2.1 ex de) z.2.2.1 z.2.2.2.1 z.2.2.2.2.1 z.2.2.2.2.2.1 z.2.2.2.2.2.2.1 z.2.2.2.2.2.2.2.1 ob reg z.2.2.2.2.2.2.2.2 ((kStep ((fv, ca, va, R, w, g, tr, ha) : KS)).ca) ((kStep ((fv, ca, va, R, w, g, tr, ha) : KS)).va) ((kStep ((fv, ca, va, R, w, g, tr, ha) : KS)).fv) ((kStep ((fv, ca, va, R, w, g, tr, ha) : KS)).R)) ++ (KT ti co ob reg kp rc (st + 1) ((kStep ((fv, ca, va, R, w, g, tr, ha) : KS)).tr) ((kStep ((fv, ca, va, R, w, g, tr, ha) : KS)).ha)))) (fun z => MIt z.1 (kStep ((fv, ca, va, R, w, g, tr, ha) : KS)).w (kStep ((fv, ca, va, R, w, g, tr, ha) : KS)).g ∧ PF z.2.2.2.2.1 z.2.2.2.2.2.1 (kStep ((fv, ca, va, R, w, g, tr, ha) : KS)).w ∧ PF z.2.2.2.2.2.2.1 z.2.2.2.2.2.2.2.1 (kStep ((fv, ca, va, R, w, g, tr, ha) : KS)).w) := by
  refine Cg.ofF (plainFor_of_name (by decide)) (Nat.le_of_ble_eq_true rfl) ?_
  intro p9 e9 s9 m9 b9 me9 c9 ls S hr hlk hl hw
  obtain ⟨hx, hb, hml, hown, hts⟩ := id S
  have hl : lv_has ls 3 [(0, .ref co)] := hl
  refine lv_aload_n hx hb d_Cor_step_0 rfl (lv_at hl 0 rfl) ?_
  refine lv_dup hx hb d_Cor_step_1 rfl ?_
  refine q_get S hw ly_Cor 69 rfl rfl 7 (by decide) tb_2_74 rfl rfl d_Cor_step_2 ?_
  refine lv_iconst (v := 1) hx hb d_Cor_step_5 (by decide) ?_
  refine lv_iadd hx hb d_Cor_step_6 ?_
  refine q_put (v := .int (st + (1 : Int32))) S hw ly_Cor t_Cor t_Cor_ok n_Cor 69 rfl rfl 7 (by decide) tb_2_74 rfl rfl rfl rfl (Nat.le_of_ble_eq_true rfl) d_Cor_step_7 (fun H locs hw => ?_)
  have hw : Lv _ _ _ _ _ ((CW ad ti u pi ex de xi xb di db fi fb ob reg kq ca va fv R) ++ (KT ti co ob reg kp rc (st + (1 : Int32)) tr ha)) _ _ _ := hw
  refine lv_aload_n hx hb d_Cor_step_10 rfl (lv_at hl 0 rfl) ?_
  refine q_get S hw ly_Cor 69 rfl rfl 0 (by decide) tb_2_67 rfl rfl d_Cor_step_11 ?_
  refine q_cg (q_runV (As := []) (rest := []) S ((c_Sta_pccFault l D ti ad u pi ex de xi xb di db fi fb ob reg kq ca va fv R).front (fun _ => CW_ln) (KT ti co ob reg kp rc (st + (1 : Int32)) tr ha)) (cw_v hts tb_3_154 k_Sta_pccFault rfl rfl ⟨by decide, by decide⟩) hw 16 rfl rfl rfl hl.1 rfl (Nat.le_of_ble_eq_true rfl) d_Cor_step_14 ⟨Nat.zero_le _, Nat.zero_le _⟩) hw (fun z hD => KW_D hD) (fun z9 H locs hp9 hw => ?_)
  refine W.eq (g2 := F0 m9 17 ls [.int ((pcF fv (R 32)).1)]) rfl ?_
  have hw : Lv _ _ _ _ _ ((CW ad ti u pi ex de xi xb di db fi fb ob reg kq ca va ((pcF fv (R 32)).2) R) ++ (KT ti co ob reg kp rc (st + (1 : Int32)) tr ha)) _ _ _ := hw
  refine lv_istore_n (lv' := [(1, .int ((pcF fv (R 32)).1)), (0, .ref co)]) hx hb d_Cor_step_17 rfl hl (by decide) rfl (fun ls hl => ?_)
  refine lv_iload_n hx hb d_Cor_step_18 rfl (lv_at hl 0 rfl) ?_
  refine lv_iconst (v := -1) hx hb d_Cor_step_19 (by decide) ?_
  refine lv_icmp_ne hx hb d_Cor_step_20 rfl (fun h20 => ?_) (fun h20 => ?_)
  · refine lv_iload_n hx hb d_Cor_step_75 rfl (lv_at hl 0 rfl) ?_
    refine lv_if_lt hx hb d_Cor_step_76 rfl (fun h76 => ?_) (fun h76 => ?_)
    · refine lv_iload_n hx hb d_Cor_step_87 rfl (lv_at hl 0 rfl) ?_
      refine lv_bipush (v := -2) hx hb d_Cor_step_88 (by decide) ?_
      refine lv_icmp_eq hx hb d_Cor_step_90 rfl (fun h90 => ?_) (fun h90 => ?_)
      · exact hw.rv S hr hlk d_Cor_step_115 (u, false, xi, xb, di, db, fi, fb, kq) (rfl) (by rw [kStep_f (s := ((fv, ca, va, R, w, g, tr, ha) : KS)) h20, kFin_j h76 h90]; exact ⟨hM, hD, hF⟩) (by rw [kStep_f (s := ((fv, ca, va, R, w, g, tr, ha) : KS)) h20, kFin_j h76 h90]; first | done | rfl)
      · refine lv_aload_n hx hb d_Cor_step_93 rfl (lv_at hl 1 rfl) ?_
        refine q_get S hw ly_Cor 69 rfl rfl 0 (by decide) tb_2_67 rfl rfl d_Cor_step_94 ?_
        refine q_get S hw ly_Sta 16 rfl rfl 1 (by decide) tb_1_213 rfl rfl d_Cor_step_97 ?_
        refine lv_aload_n hx hb d_Cor_step_100 rfl (lv_at hl 1 rfl) ?_
        refine q_get S hw ly_Cor 69 rfl rfl 0 (by decide) tb_2_67 rfl rfl d_Cor_step_101 ?_
        refine q_get S hw ly_Sta 16 rfl rfl 1 (by decide) tb_1_213 rfl rfl d_Cor_step_104 ?_
        refine q_get S hw ly_Cap (21 + (32)) (app_at (CW_at (by first | decide | omega))) rfl 1 (by decide) tb_1_54 rfl rfl d_Cor_step_107 ?_
        refine lv_iconst (v := 4) hx hb d_Cor_step_110 (by decide) ?_
        refine lv_iadd hx hb d_Cor_step_111 ?_
        refine q_cg (q_runV (As := [.int (((R 32).2.1) + (4 : Int32))]) (rest := []) S ((w_moveTo l D ti ad u pi ex de xi xb di db fi fb ob reg kq ca va ((pcF fv (R 32)).2) R (32) (by first | decide | omega) (((R 32).2.1) + (4 : Int32))).front (fun _ => CW_ln) (KT ti co ob reg kp rc (st + (1 : Int32)) tr ha)) (cw_v hts tb_4_228 k_Cap_moveTo rfl rfl ⟨by decide, by decide⟩) hw (21 + (32)) (app_at (CW_at (by first | decide | omega))) rfl rfl hl.1 rfl (Nat.le_of_ble_eq_true rfl) d_Cor_step_112 ⟨Nat.zero_le _, Nat.zero_le _⟩) hw (fun z hD => KW_D hD) (fun z9 H locs hp9 hw => ?_)
        refine W.eq (g2 := F0 m9 115 ls []) rfl ?_
        have hw : Lv _ _ _ _ _ ((CW ad ti u pi ex de xi xb di db fi fb ob reg kq ca va ((pcF fv (R 32)).2) (va_up R (32) (cMvC (R 32) (((R 32).2.1) + (4 : Int32))))) ++ (KT ti co ob reg kp rc (st + (1 : Int32)) tr ha)) _ _ _ := hw
        exact hw.rv S hr hlk d_Cor_step_115 (u, false, xi, xb, di, db, fi, fb, kq) (rfl) (by rw [kStep_f (s := ((fv, ca, va, R, w, g, tr, ha) : KS)) h20, kFin_n h76 h90]; exact ⟨hM, hD, hF⟩) (by rw [kStep_f (s := ((fv, ca, va, R, w, g, tr, ha) : KS)) h20, kFin_n h76 h90]; first | done | rfl)
    · refine lv_aload_n hx hb d_Cor_step_79 rfl (lv_at hl 1 rfl) ?_
      refine lv_iload_n hx hb d_Cor_step_80 rfl (lv_at hl 0 rfl) ?_
      refine q_cg (q_runV (As := [.int ((pcF fv (R 32)).1)]) (rest := []) S (c_Cor_takeTrap l D ti ad u pi ex de xi xb di db fi fb ob reg kq ca va ((pcF fv (R 32)).2) R co kp rc (st + (1 : Int32)) tr ha ((pcF fv (R 32)).1)) (cw_v hts tb_4_224 k_Cor_takeTrap rfl rfl ⟨by decide, by decide⟩) hw 69 rfl rfl rfl hl.1 rfl (Nat.le_of_ble_eq_true rfl) d_Cor_step_81 ⟨Nat.zero_le _, Nat.zero_le _⟩) hw (fun z hD => KW_D hD) (fun z9 H locs hp9 hw => ?_)
      refine W.eq (g2 := F0 m9 84 ls []) rfl ?_
      have hw : Lv _ _ _ _ _ ((CW ad ti u pi ex de xi xb di db fi fb ob reg kq ((pcF fv (R 32)).1) ((pcF fv (R 32)).2) ((pcF ((pcF fv (R 32)).2) (kTR R 32)).2) (kTR R)) ++ (KT ti co ob reg kp rc (st + (1 : Int32)) (tr + 1) (kHa ((pcF fv (R 32)).2) R))) _ _ _ := hw
      refine lv_goto hx hb d_Cor_step_84 rfl ?_
      exact hw.rv S hr hlk d_Cor_step_115 (u, false, xi, xb, di, db, fi, fb, kq) (rfl) (by rw [kStep_f (s := ((fv, ca, va, R, w, g, tr, ha) : KS)) h20, kFin_t h76]; exact ⟨hM, hD, hF⟩) (by rw [kStep_f (s := ((fv, ca, va, R, w, g, tr, ha) : KS)) h20, kFin_t h76]; first | done | rfl)
  · obtain ⟨X, hX, eX, hX4⟩ := pcF_ok h20
    have ek : (R 32).2.1.toNatClampNeg / 4 = X / 4 := by rw [eX, nI_clamp (by omega)]
    refine lv_aload_n hx hb d_Cor_step_23 rfl (lv_at hl 1 rfl) ?_
    refine q_get S hw ly_Cor 69 rfl rfl 0 (by decide) tb_2_67 rfl rfl d_Cor_step_24 ?_
    refine q_get S hw ly_Sta 16 rfl rfl 4 (by decide) tb_1_221 rfl rfl d_Cor_step_27 ?_
    refine lv_aload_n hx hb d_Cor_step_30 rfl (lv_at hl 1 rfl) ?_
    refine q_get S hw ly_Cor 69 rfl rfl 0 (by decide) tb_2_67 rfl rfl d_Cor_step_31 ?_
    refine q_get S hw ly_Sta 16 rfl rfl 1 (by decide) tb_1_213 rfl rfl d_Cor_step_34 ?_
    refine q_get S hw ly_Cap (21 + (32)) (app_at (CW_at (by first | decide | omega))) rfl 1 (by decide) tb_1_54 rfl rfl d_Cor_step_37 ?_
    refine lv_iconst (v := 2) hx hb d_Cor_step_40 (by decide) ?_
    refine lv_iushr (v := (jus ((R 32).2.1) (2 : Int32))) hx hb d_Cor_step_41 rfl ?_
    refine q_topi (z := (nI (X / 4))) (by rw [eX]; exact us2 hX) ?_
    refine q_cg (q_runV (As := [.int (nI (X / 4))]) (rest := []) S ((w_advance l D ti ad u pi ex de xi xb di db fi fb ob reg kq ca va ((pcF fv (R 32)).2) R w g hM hD hF (X / 4) (by omega)).front (fun _ => CW_ln) (KT ti co ob reg kp rc (st + (1 : Int32)) tr ha)) (cw_v hts tb_3_190 k_Pip_advance rfl rfl ⟨by decide, by decide⟩) hw 13 rfl rfl rfl hl.1 rfl (Nat.le_of_ble_eq_true rfl) d_Cor_step_42 ⟨Nat.zero_le _, Nat.zero_le _⟩) hw (fun z hD => KW_sw hD) (fun z59 H locs hp60 hw => ?_)
    obtain ⟨u61, di62, db63, fi64, fb65⟩ := z59
    obtain ⟨hM66, hD67, hF68⟩ : MIt u61 w g ∧ PF di62 db63 w ∧ PF fi64 fb65 w := hp60
    refine W.eq (g2 := F0 m9 45 ls [.ref de]) rfl ?_
    have hw : Lv _ _ _ _ _ ((CW ad ti u61 pi de ex (nI (X / 4)) (w (X / 4)) di62 db63 fi64 fb65 ob reg kq ca va ((pcF fv (R 32)).2) R) ++ (KT ti co ob reg kp rc (st + (1 : Int32)) tr ha)) _ _ _ := hw
    refine lv_astore_n (lv' := [(2, .ref de), (1, .int ((pcF fv (R 32)).1)), (0, .ref co)]) hx hb d_Cor_step_45 rfl hl (by decide) rfl (fun ls hl => ?_)
    refine lv_aload_n hx hb d_Cor_step_46 rfl (lv_at hl 0 rfl) ?_
    refine q_get S hw ly_Ins 14 rfl rfl 2 (by decide) tb_1_152 rfl rfl d_Cor_step_47 ?_
    refine lv_bipush (v := 91) hx hb d_Cor_step_50 (by decide) ?_
    refine lv_icmp_ne hx hb d_Cor_step_52 rfl (fun h52 => ?_) (fun h52 => ?_)
    · refine lv_aload_n hx hb d_Cor_step_66 rfl (lv_at hl 2 rfl) ?_
      refine q_get S hw ly_Cor 69 rfl rfl 1 (by decide) tb_2_68 rfl rfl d_Cor_step_67 ?_
      refine lv_aload_n hx hb d_Cor_step_70 rfl (lv_at hl 0 rfl) ?_
      refine q_cg (q_runV (As := [.ref de]) (rest := []) S ((c_Bas_execute l D ti ad u61 pi de ex (nI (X / 4)) (w (X / 4)) di62 db63 fi64 fb65 ob reg kq ca va ((pcF fv (R 32)).2) R w g hM66 hD67 hF68).front (fun _ => CW_ln) (KT ti co ob reg kp rc (st + (1 : Int32)) tr ha)) (cw_v hts tb_4_98 k_Bas_execute rfl rfl ⟨by decide, by decide⟩) hw 18 rfl rfl rfl hl.1 rfl (Nat.le_of_ble_eq_true rfl) d_Cor_step_71 ⟨Nat.zero_le _, Nat.zero_le _⟩) hw (fun z hD => KW_D hD) (fun z72 H locs hp73 hw => ?_)
      obtain ⟨u74, di75, fi76⟩ := z72
      obtain ⟨hM69, hD70, hF71⟩ : MIt u74 ((xB ((pcF fv (R 32)).2) ca va R w g (w (X / 4))).2.2.2.2.2.1) ((xB ((pcF fv (R 32)).2) ca va R w g (w (X / 4))).2.2.2.2.2.2) ∧ PF di75 db63 ((xB ((pcF fv (R 32)).2) ca va R w g (w (X / 4))).2.2.2.2.2.1) ∧ PF fi76 fb65 ((xB ((pcF fv (R 32)).2) ca va R w g (w (X / 4))).2.2.2.2.2.1) := hp73
      refine W.eq (g2 := F0 m9 74 ls [.int ((xB ((pcF fv (R 32)).2) ca va R w g (w (X / 4))).1)]) rfl ?_
      have hw : Lv _ _ _ _ _ ((CW ad ti u74 pi de ex (nI (X / 4)) (w (X / 4)) di75 db63 fi76 fb65 ob reg kq ((xB ((pcF fv (R 32)).2) ca va R w g (w (X / 4))).2.2.2.1) ((xB ((pcF fv (R 32)).2) ca va R w g (w (X / 4))).2.2.2.2.1) ((xB ((pcF fv (R 32)).2) ca va R w g (w (X / 4))).2.1) ((xB ((pcF fv (R 32)).2) ca va R w g (w (X / 4))).2.2.1)) ++ (KT ti co ob reg kp rc (st + (1 : Int32)) tr ha)) _ _ _ := hw
      refine lv_istore_n (lv' := [(1, .int ((xB ((pcF fv (R 32)).2) ca va R w g (w (X / 4))).1)), (2, .ref de), (0, .ref co)]) hx hb d_Cor_step_74 rfl hl (by decide) rfl (fun ls hl => ?_)
      refine lv_iload_n hx hb d_Cor_step_75 rfl (lv_at hl 0 rfl) ?_
      refine lv_if_lt hx hb d_Cor_step_76 rfl (fun h76 => ?_) (fun h76 => ?_)
      · refine lv_iload_n hx hb d_Cor_step_87 rfl (lv_at hl 0 rfl) ?_
        refine lv_bipush (v := -2) hx hb d_Cor_step_88 (by decide) ?_
        refine lv_icmp_eq hx hb d_Cor_step_90 rfl (fun h90 => ?_) (fun h90 => ?_)
        · exact hw.rv S hr hlk d_Cor_step_115 (u74, true, (nI (X / 4)), (w (X / 4)), di75, db63, fi76, fb65, kq) (rfl) (by rw [kStep_b (s := ((fv, ca, va, R, w, g, tr, ha) : KS)) h20 ek h52, kFin_j h76 h90]; exact ⟨hM69, hD70, hF71⟩) (by rw [kStep_b (s := ((fv, ca, va, R, w, g, tr, ha) : KS)) h20 ek h52, kFin_j h76 h90]; first | done | rfl)
        · refine lv_aload_n hx hb d_Cor_step_93 rfl (lv_at hl 2 rfl) ?_
          refine q_get S hw ly_Cor 69 rfl rfl 0 (by decide) tb_2_67 rfl rfl d_Cor_step_94 ?_
          refine q_get S hw ly_Sta 16 rfl rfl 1 (by decide) tb_1_213 rfl rfl d_Cor_step_97 ?_
          refine lv_aload_n hx hb d_Cor_step_100 rfl (lv_at hl 2 rfl) ?_
          refine q_get S hw ly_Cor 69 rfl rfl 0 (by decide) tb_2_67 rfl rfl d_Cor_step_101 ?_
          refine q_get S hw ly_Sta 16 rfl rfl 1 (by decide) tb_1_213 rfl rfl d_Cor_step_104 ?_
          refine q_get S hw ly_Cap (21 + (32)) (app_at (CW_at (by first | decide | omega))) rfl 1 (by decide) tb_1_54 rfl rfl d_Cor_step_107 ?_
          refine lv_iconst (v := 4) hx hb d_Cor_step_110 (by decide) ?_
          refine lv_iadd hx hb d_Cor_step_111 ?_
          refine q_cg (q_runV (As := [.int ((((xB ((pcF fv (R 32)).2) ca va R w g (w (X / 4))).2.2.1 32).2.1) + (4 : Int32))]) (rest := []) S ((w_moveTo l D ti ad u74 pi de ex (nI (X / 4)) (w (X / 4)) di75 db63 fi76 fb65 ob reg kq ((xB ((pcF fv (R 32)).2) ca va R w g (w (X / 4))).2.2.2.1) ((xB ((pcF fv (R 32)).2) ca va R w g (w (X / 4))).2.2.2.2.1) ((xB ((pcF fv (R 32)).2) ca va R w g (w (X / 4))).2.1) ((xB ((pcF fv (R 32)).2) ca va R w g (w (X / 4))).2.2.1) (32) (by first | decide | omega) ((((xB ((pcF fv (R 32)).2) ca va R w g (w (X / 4))).2.2.1 32).2.1) + (4 : Int32))).front (fun _ => CW_ln) (KT ti co ob reg kp rc (st + (1 : Int32)) tr ha)) (cw_v hts tb_4_228 k_Cap_moveTo rfl rfl ⟨by decide, by decide⟩) hw (21 + (32)) (app_at (CW_at (by first | decide | omega))) rfl rfl hl.1 rfl (Nat.le_of_ble_eq_true rfl) d_Cor_step_112 ⟨Nat.zero_le _, Nat.zero_le _⟩) hw (fun z hD => KW_D hD) (fun z9 H locs hp9 hw => ?_)
          refine W.eq (g2 := F0 m9 115 ls []) rfl ?_
          have hw : Lv _ _ _ _ _ ((CW ad ti u74 pi de ex (nI (X / 4)) (w (X / 4)) di75 db63 fi76 fb65 ob reg kq ((xB ((pcF fv (R 32)).2) ca va R w g (w (X / 4))).2.2.2.1) ((xB ((pcF fv (R 32)).2) ca va R w g (w (X / 4))).2.2.2.2.1) ((xB ((pcF fv (R 32)).2) ca va R w g (w (X / 4))).2.1) (va_up ((xB ((pcF fv (R 32)).2) ca va R w g (w (X / 4))).2.2.1) (32) (cMvC ((xB ((pcF fv (R 32)).2) ca va R w g (w (X / 4))).2.2.1 32) ((((xB ((pcF fv (R 32)).2) ca va R w g (w (X / 4))).2.2.1 32).2.1) + (4 : Int32))))) ++ (KT ti co ob reg kp rc (st + (1 : Int32)) tr ha)) _ _ _ := hw
          exact hw.rv S hr hlk d_Cor_step_115 (u74, true, (nI (X / 4)), (w (X / 4)), di75, db63, fi76, fb65, kq) (rfl) (by rw [kStep_b (s := ((fv, ca, va, R, w, g, tr, ha) : KS)) h20 ek h52, kFin_n h76 h90]; exact ⟨hM69, hD70, hF71⟩) (by rw [kStep_b (s := ((fv, ca, va, R, w, g, tr, ha) : KS)) h20 ek h52, kFin_n h76 h90]; first | done | rfl)
      · refine lv_aload_n hx hb d_Cor_step_79 rfl (lv_at hl 2 rfl) ?_
        refine lv_iload_n hx hb d_Cor_step_80 rfl (lv_at hl 0 rfl) ?_
        refine q_cg (q_runV (As := [.int ((xB ((pcF fv (R 32)).2) ca va R w g (w (X / 4))).1)]) (rest := []) S (c_Cor_takeTrap l D ti ad u74 pi de ex (nI (X / 4)) (w (X / 4)) di75 db63 fi76 fb65 ob reg kq ((xB ((pcF fv (R 32)).2) ca va R w g (w (X / 4))).2.2.2.1) ((xB ((pcF fv (R 32)).2) ca va R w g (w (X / 4))).2.2.2.2.1) ((xB ((pcF fv (R 32)).2) ca va R w g (w (X / 4))).2.1) ((xB ((pcF fv (R 32)).2) ca va R w g (w (X / 4))).2.2.1) co kp rc (st + (1 : Int32)) tr ha ((xB ((pcF fv (R 32)).2) ca va R w g (w (X / 4))).1)) (cw_v hts tb_4_224 k_Cor_takeTrap rfl rfl ⟨by decide, by decide⟩) hw 69 rfl rfl rfl hl.1 rfl (Nat.le_of_ble_eq_true rfl) d_Cor_step_81 ⟨Nat.zero_le _, Nat.zero_le _⟩) hw (fun z hD => KW_D hD) (fun z9 H locs hp9 hw => ?_)
        refine W.eq (g2 := F0 m9 84 ls []) rfl ?_
        have hw : Lv _ _ _ _ _ ((CW ad ti u74 pi de ex (nI (X / 4)) (w (X / 4)) di75 db63 fi76 fb65 ob reg kq ((xB ((pcF fv (R 32)).2) ca va R w g (w (X / 4))).1) ((xB ((pcF fv (R 32)).2) ca va R w g (w (X / 4))).2.1) ((pcF ((xB ((pcF fv (R 32)).2) ca va R w g (w (X / 4))).2.1) (kTR ((xB ((pcF fv (R 32)).2) ca va R w g (w (X / 4))).2.2.1) 32)).2) (kTR ((xB ((pcF fv (R 32)).2) ca va R w g (w (X / 4))).2.2.1))) ++ (KT ti co ob reg kp rc (st + (1 : Int32)) (tr + 1) (kHa ((xB ((pcF fv (R 32)).2) ca va R w g (w (X / 4))).2.1) ((xB ((pcF fv (R 32)).2) ca va R w g (w (X / 4))).2.2.1)))) _ _ _ := hw
        refine lv_goto hx hb d_Cor_step_84 rfl ?_
        exact hw.rv S hr hlk d_Cor_step_115 (u74, true, (nI (X / 4)), (w (X / 4)), di75, db63, fi76, fb65, kq) (rfl) (by rw [kStep_b (s := ((fv, ca, va, R, w, g, tr, ha) : KS)) h20 ek h52, kFin_t h76]; exact ⟨hM69, hD70, hF71⟩) (by rw [kStep_b (s := ((fv, ca, va, R, w, g, tr, ha) : KS)) h20 ek h52, kFin_t h76]; first | done | rfl)
    · refine lv_aload_n hx hb d_Cor_step_55 rfl (lv_at hl 2 rfl) ?_
      refine q_get S hw ly_Cor 69 rfl rfl 2 (by decide) tb_2_69 rfl rfl d_Cor_step_56 ?_
      refine lv_aload_n hx hb d_Cor_step_59 rfl (lv_at hl 0 rfl) ?_
      refine q_cg (q_runV (As := [.ref de]) (rest := []) S ((c_Cun_execute l D ti ad u61 pi de ex (nI (X / 4)) (w (X / 4)) di62 db63 fi64 fb65 ob reg kq ca va ((pcF fv (R 32)).2) R).front (fun _ => CW_ln) (KT ti co ob reg kp rc (st + (1 : Int32)) tr ha)) (cw_v hts tb_3_208 k_Cun_execute rfl rfl ⟨by decide, by decide⟩) hw 19 rfl rfl rfl hl.1 rfl (Nat.le_of_ble_eq_true rfl) d_Cor_step_60 ⟨Nat.zero_le _, Nat.zero_le _⟩) hw (fun z hD => KW_D hD) (fun kq77 H locs hp9 hw => ?_)
      refine W.eq (g2 := F0 m9 63 ls [.int ((xU ((pcF fv (R 32)).2) R (w (X / 4))).1)]) rfl ?_
      have hw : Lv _ _ _ _ _ ((CW ad ti u61 pi de ex (nI (X / 4)) (w (X / 4)) di62 db63 fi64 fb65 ob reg kq77 ca va ((xU ((pcF fv (R 32)).2) R (w (X / 4))).2.1) ((xU ((pcF fv (R 32)).2) R (w (X / 4))).2.2)) ++ (KT ti co ob reg kp rc (st + (1 : Int32)) tr ha)) _ _ _ := hw
      refine lv_goto hx hb d_Cor_step_63 rfl ?_
      refine lv_istore_n (lv' := [(1, .int ((xU ((pcF fv (R 32)).2) R (w (X / 4))).1)), (2, .ref de), (0, .ref co)]) hx hb d_Cor_step_74 rfl hl (by decide) rfl (fun ls hl => ?_)
      refine lv_iload_n hx hb d_Cor_step_75 rfl (lv_at hl 0 rfl) ?_
      refine lv_if_lt hx hb d_Cor_step_76 rfl (fun h76 => ?_) (fun h76 => ?_)
      · refine lv_iload_n hx hb d_Cor_step_87 rfl (lv_at hl 0 rfl) ?_
        refine lv_bipush (v := -2) hx hb d_Cor_step_88 (by decide) ?_
        refine lv_icmp_eq hx hb d_Cor_step_90 rfl (fun h90 => ?_) (fun h90 => ?_)
        · exact hw.rv S hr hlk d_Cor_step_115 (u61, true, (nI (X / 4)), (w (X / 4)), di62, db63, fi64, fb65, kq77) (rfl) (by rw [kStep_u (s := ((fv, ca, va, R, w, g, tr, ha) : KS)) h20 ek h52, kFin_j h76 h90]; exact ⟨hM66, hD67, hF68⟩) (by rw [kStep_u (s := ((fv, ca, va, R, w, g, tr, ha) : KS)) h20 ek h52, kFin_j h76 h90]; first | done | rfl)
        · refine lv_aload_n hx hb d_Cor_step_93 rfl (lv_at hl 2 rfl) ?_
          refine q_get S hw ly_Cor 69 rfl rfl 0 (by decide) tb_2_67 rfl rfl d_Cor_step_94 ?_
          refine q_get S hw ly_Sta 16 rfl rfl 1 (by decide) tb_1_213 rfl rfl d_Cor_step_97 ?_
          refine lv_aload_n hx hb d_Cor_step_100 rfl (lv_at hl 2 rfl) ?_
          refine q_get S hw ly_Cor 69 rfl rfl 0 (by decide) tb_2_67 rfl rfl d_Cor_step_101 ?_
          refine q_get S hw ly_Sta 16 rfl rfl 1 (by decide) tb_1_213 rfl rfl d_Cor_step_104 ?_
          refine q_get S hw ly_Cap (21 + (32)) (app_at (CW_at (by first | decide | omega))) rfl 1 (by decide) tb_1_54 rfl rfl d_Cor_step_107 ?_
          refine lv_iconst (v := 4) hx hb d_Cor_step_110 (by decide) ?_
          refine lv_iadd hx hb d_Cor_step_111 ?_
          refine q_cg (q_runV (As := [.int ((((xU ((pcF fv (R 32)).2) R (w (X / 4))).2.2 32).2.1) + (4 : Int32))]) (rest := []) S ((w_moveTo l D ti ad u61 pi de ex (nI (X / 4)) (w (X / 4)) di62 db63 fi64 fb65 ob reg kq77 ca va ((xU ((pcF fv (R 32)).2) R (w (X / 4))).2.1) ((xU ((pcF fv (R 32)).2) R (w (X / 4))).2.2) (32) (by first | decide | omega) ((((xU ((pcF fv (R 32)).2) R (w (X / 4))).2.2 32).2.1) + (4 : Int32))).front (fun _ => CW_ln) (KT ti co ob reg kp rc (st + (1 : Int32)) tr ha)) (cw_v hts tb_4_228 k_Cap_moveTo rfl rfl ⟨by decide, by decide⟩) hw (21 + (32)) (app_at (CW_at (by first | decide | omega))) rfl rfl hl.1 rfl (Nat.le_of_ble_eq_true rfl) d_Cor_step_112 ⟨Nat.zero_le _, Nat.zero_le _⟩) hw (fun z hD => KW_D hD) (fun z9 H locs hp9 hw => ?_)
          refine W.eq (g2 := F0 m9 115 ls []) rfl ?_
          have hw : Lv _ _ _ _ _ ((CW ad ti u61 pi de ex (nI (X / 4)) (w (X / 4)) di62 db63 fi64 fb65 ob reg kq77 ca va ((xU ((pcF fv (R 32)).2) R (w (X / 4))).2.1) (va_up ((xU ((pcF fv (R 32)).2) R (w (X / 4))).2.2) (32) (cMvC ((xU ((pcF fv (R 32)).2) R (w (X / 4))).2.2 32) ((((xU ((pcF fv (R 32)).2) R (w (X / 4))).2.2 32).2.1) + (4 : Int32))))) ++ (KT ti co ob reg kp rc (st + (1 : Int32)) tr ha)) _ _ _ := hw
          exact hw.rv S hr hlk d_Cor_step_115 (u61, true, (nI (X / 4)), (w (X / 4)), di62, db63, fi64, fb65, kq77) (rfl) (by rw [kStep_u (s := ((fv, ca, va, R, w, g, tr, ha) : KS)) h20 ek h52, kFin_n h76 h90]; exact ⟨hM66, hD67, hF68⟩) (by rw [kStep_u (s := ((fv, ca, va, R, w, g, tr, ha) : KS)) h20 ek h52, kFin_n h76 h90]; first | done | rfl)
      · refine lv_aload_n hx hb d_Cor_step_79 rfl (lv_at hl 2 rfl) ?_
        refine lv_iload_n hx hb d_Cor_step_80 rfl (lv_at hl 0 rfl) ?_
        refine q_cg (q_runV (As := [.int ((xU ((pcF fv (R 32)).2) R (w (X / 4))).1)]) (rest := []) S (c_Cor_takeTrap l D ti ad u61 pi de ex (nI (X / 4)) (w (X / 4)) di62 db63 fi64 fb65 ob reg kq77 ca va ((xU ((pcF fv (R 32)).2) R (w (X / 4))).2.1) ((xU ((pcF fv (R 32)).2) R (w (X / 4))).2.2) co kp rc (st + (1 : Int32)) tr ha ((xU ((pcF fv (R 32)).2) R (w (X / 4))).1)) (cw_v hts tb_4_224 k_Cor_takeTrap rfl rfl ⟨by decide, by decide⟩) hw 69 rfl rfl rfl hl.1 rfl (Nat.le_of_ble_eq_true rfl) d_Cor_step_81 ⟨Nat.zero_le _, Nat.zero_le _⟩) hw (fun z hD => KW_D hD) (fun z9 H locs hp9 hw => ?_)
        refine W.eq (g2 := F0 m9 84 ls []) rfl ?_
        have hw : Lv _ _ _ _ _ ((CW ad ti u61 pi de ex (nI (X / 4)) (w (X / 4)) di62 db63 fi64 fb65 ob reg kq77 ((xU ((pcF fv (R 32)).2) R (w (X / 4))).1) ((xU ((pcF fv (R 32)).2) R (w (X / 4))).2.1) ((pcF ((xU ((pcF fv (R 32)).2) R (w (X / 4))).2.1) (kTR ((xU ((pcF fv (R 32)).2) R (w (X / 4))).2.2) 32)).2) (kTR ((xU ((pcF fv (R 32)).2) R (w (X / 4))).2.2))) ++ (KT ti co ob reg kp rc (st + (1 : Int32)) (tr + 1) (kHa ((xU ((pcF fv (R 32)).2) R (w (X / 4))).2.1) ((xU ((pcF fv (R 32)).2) R (w (X / 4))).2.2)))) _ _ _ := hw
        refine lv_goto hx hb d_Cor_step_84 rfl ?_
        exact hw.rv S hr hlk d_Cor_step_115 (u61, true, (nI (X / 4)), (w (X / 4)), di62, db63, fi64, fb65, kq77) (rfl) (by rw [kStep_u (s := ((fv, ca, va, R, w, g, tr, ha) : KS)) h20 ek h52, kFin_t h76]; exact ⟨hM66, hD67, hF68⟩) (by rw [kStep_u (s := ((fv, ca, va, R, w, g, tr, ha) : KS)) h20 ek h52, kFin_t h76]; first | done | rfl)
