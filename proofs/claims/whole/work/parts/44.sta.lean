/-! State: the world of both units: memory, pipeline, State, registers, the units, a packer, the pool. -/
abbrev pkT (q : Int32 × Bool × Bool × Int32 × Int64) : va_E := pkC q.1 q.2.1 q.2.2.1 q.2.2.2.1 q.2.2.2.2
def CT (ad : Nat → Nat) (ti : Nat → ClassId) (pi ex de : Nat) (xi xb di db fi fb : Int32) (ob reg : Nat → Nat) (kq : Int32 × Bool × Bool × Int32 × Int64) (ca va fv : Int32) : va_W :=
  [(pi, .inr (6, [.ref (ad 0), .ref ex, .ref de, .int fi, .int fb])), (ex, insD xi xb), (de, insD di db),
   (ob 0, .inr (7, [.ref (ob 1), .ref (reg 32), .ref (reg 37), .ref (ad 0), .ref pi, .int ca, .int va, .int fv])), (ob 1, .inl (ti 3, 37, .inr (.inr (.inr (.inr (fun j => some (reg j))))))), (ob 2, .inr (8, [.ref (ob 0), .ref (reg 38)])), (ob 3, .inr (9, [.ref (ob 0), .ref (ob 4)])), (ob 4, pkT kq)]
def CW (ad : Nat → Nat) (ti : Nat → ClassId) (u : MT) (pi ex de : Nat) (xi xb di db fi fb : Int32) (ob reg : Nat → Nat) (kq : Int32 × Bool × Bool × Int32 × Int64) (ca va fv : Int32) (R : Nat → Cap) : va_W :=
  MWt ad ti u ++ (CT ad ti pi ex de xi xb di db fi fb ob reg kq ca va fv ++ cpool reg R)
theorem CW_X (ad : Nat → Nat) (ti : Nat → ClassId) (u : MT) (pi ex de : Nat) (xi xb di db fi fb : Int32) (ob reg : Nat → Nat) (kq : Int32 × Bool × Bool × Int32 × Int64) (ca va fv : Int32) (R : Nat → Cap) : CW ad ti u pi ex de xi xb di db fi fb ob reg kq ca va fv R = (MWt ad ti u ++ CT ad ti pi ex de xi xb di db fi fb ob reg kq ca va fv) ++ cpool reg R := (List.append_assoc _ _ _).symm
theorem CW_at {ti : Nat → ClassId} {ad : Nat → Nat} {u : MT} {pi ex de : Nat} {xi xb di db fi fb : Int32} {ob reg : Nat → Nat} {kq : Int32 × Bool × Bool × Int32 × Int64} {ca va fv : Int32} {R : Nat → Cap} {k : Nat} (hk : k < 48) : (CW ad ti u pi ex de xi xb di db fi fb ob reg kq ca va fv R)[21 + k]? = some (reg k, capE (R k)) := by
  rw [CW_X]
  exact cpool_at rfl hk
theorem CW_D {A : Nat → Prop} {ti : Nat → ClassId} {ad : Nat → Nat} {u : MT} {pi ex de : Nat} {xi xb di db fi fb : Int32} {ob reg : Nat → Nat} {kq : Int32 × Bool × Bool × Int32 × Int64} {ca va fv : Int32} {R : Nat → Cap} {R' : Nat → Cap} (h : va_D A (CW ad ti u pi ex de xi xb di db fi fb ob reg kq ca va fv R)) : va_D A (CW ad ti u pi ex de xi xb di db fi fb ob reg kq ca va fv R') := by
  rw [CW_X] at h ⊢
  exact cpool_D h
def authF (c : Cap) (p wr : Int32) : Int32 := if c.1 = false then 2 else if cOpen c.2.2 = false then 3 else if cMay c.2.2 p = true then 0 else wr
def aTr (why : Int32) : Int32 := if why = 0 then -1 else 28
def aFv (fv : Int32) (k : Nat) (why : Int32) : Int32 := if why = 0 then fv else 32 * nI k + why
def plF (fv : Int32) (k : Nat) (c : Cap) (x n tm : Int32) : Int32 × Int32 := if cCov (cbase c.2.2 c.2.1) (ctop c.2.2 c.2.1) x n.toInt64 = false then (28, 32 * nI k + 1) else if (x &&& (n - 1)) = 0 then (if x < 0 then (tm + 1, x) else if 16384 ≤ x then (tm + 1, x) else (-1, fv)) else (tm, x)
def pcF (fv : Int32) (c : Cap) : Int32 × Int32 := if authF c 1 17 = 0 then plF fv 32 c c.2.1 4 0 else (28, 32 * nI 32 + authF c 1 17)
def aR (R : Nat → Cap) (d : Nat) : Nat → Cap := if nI d = 0 then R else va_up R d (R 37)
def nR (R : Nat → Cap) (d : Nat) (x : Int32) : Nat → Cap := if nI d = 0 then R else va_up R d (false, x, 1000194)
def cMvC (c : Cap) (x : Int32) : Cap := (cMv c.1 c.2.2 (cbase c.2.2 c.2.1) (ctop c.2.2 c.2.1) x, x, c.2.2)
def cTyC (c : Cap) (t : Int32) : Cap := (c.1, c.2.1, cSetT c.2.2 t)
def lkC (c : Cap) : Cap := cTyC (cMvC c (c.2.1 + 4)) 14
theorem aTr_m1 {w : Int32} (h : aTr w = -1) : w = 0 := by
  unfold aTr at h
  split at h
  · assumption
  · exact absurd h (by decide)
theorem aTr_28 {w : Int32} (h : ¬ aTr w = -1) : ¬ w = 0 := fun q => h (by unfold aTr; rw [if_pos q])
theorem up_up (R : Nat → Cap) (k : Nat) (a b : Cap) : va_up (va_up R k a) k b = va_up R k b := by
  funext j
  unfold va_up
  split <;> rfl
theorem va_up_37 (R : Nat → Cap) (c : Cap) : va_up R 37 c 32 = R 32 := rfl
theorem w_perms (l : Launch) (D : va_G) (ti : Nat → ClassId) (ad : Nat → Nat) (u : MT) (pi ex de : Nat) (xi xb di db fi fb : Int32) (ob reg : Nat → Nat) (kq : Int32 × Bool × Bool × Int32 × Int64) (ca va fv : Int32) (R : Nat → Cap) (k : Nat) (hk : k < 48) : Cr l y_Cap_perms (wl y_Cap_perms b_Cap_perms 1 (some .int)) (rmL 0) D clz (ty4 ti) [.ref (reg k)] (CW ad ti u pi ex de xi xb di db fi fb ob reg kq ca va fv R) (some (.int (cPerms (R k).2.2))) := by
  rw [CW_X]
  exact g_perms l D (ty4 ti) _ 21 rfl reg R k hk
theorem w_type (l : Launch) (D : va_G) (ti : Nat → ClassId) (ad : Nat → Nat) (u : MT) (pi ex de : Nat) (xi xb di db fi fb : Int32) (ob reg : Nat → Nat) (kq : Int32 × Bool × Bool × Int32 × Int64) (ca va fv : Int32) (R : Nat → Cap) (k : Nat) (hk : k < 48) : Cr l y_Cap_type (wl y_Cap_type b_Cap_type 1 (some .int)) (rmL 0) D clz (ty4 ti) [.ref (reg k)] (CW ad ti u pi ex de xi xb di db fi fb ob reg kq ca va fv R) (some (.int (cType (R k).2.2))) := by
  rw [CW_X]
  exact g_type l D (ty4 ti) _ 21 rfl reg R k hk
theorem w_may (l : Launch) (D : va_G) (ti : Nat → ClassId) (ad : Nat → Nat) (u : MT) (pi ex de : Nat) (xi xb di db fi fb : Int32) (ob reg : Nat → Nat) (kq : Int32 × Bool × Bool × Int32 × Int64) (ca va fv : Int32) (R : Nat → Cap) (k : Nat) (hk : k < 48) (p : Int32) : Cr l y_Cap_may (wl y_Cap_may b_Cap_may 2 (some .boolean)) (rmL 1) D clz (ty4 ti) [.ref (reg k), .int p] (CW ad ti u pi ex de xi xb di db fi fb ob reg kq ca va fv R) (some (.int (jb (cMay (R k).2.2 p)))) := by
  rw [CW_X]
  exact g_may l D (ty4 ti) _ 21 rfl reg R k hk p
theorem w_isOpen (l : Launch) (D : va_G) (ti : Nat → ClassId) (ad : Nat → Nat) (u : MT) (pi ex de : Nat) (xi xb di db fi fb : Int32) (ob reg : Nat → Nat) (kq : Int32 × Bool × Bool × Int32 × Int64) (ca va fv : Int32) (R : Nat → Cap) (k : Nat) (hk : k < 48) : Cr l y_Cap_isOpen (wl y_Cap_isOpen b_Cap_isOpen 1 (some .boolean)) (rmL 1) D clz (ty4 ti) [.ref (reg k)] (CW ad ti u pi ex de xi xb di db fi fb ob reg kq ca va fv R) (some (.int (jb (cOpen (R k).2.2)))) := by
  rw [CW_X]
  exact g_isOpen l D (ty4 ti) _ 21 rfl reg R k hk
theorem w_toldMeta (l : Launch) (D : va_G) (ti : Nat → ClassId) (ad : Nat → Nat) (u : MT) (pi ex de : Nat) (xi xb di db fi fb : Int32) (ob reg : Nat → Nat) (kq : Int32 × Bool × Bool × Int32 × Int64) (ca va fv : Int32) (R : Nat → Cap) (k : Nat) (hk : k < 48) : Cr l y_Cap_toldMeta (wl y_Cap_toldMeta b_Cap_toldMeta 1 (some .int)) (rmL 0) D clz (ty4 ti) [.ref (reg k)] (CW ad ti u pi ex de xi xb di db fi fb ob reg kq ca va fv R) (some (.int (cTold (R k).2.2))) := by
  rw [CW_X]
  exact g_toldMeta l D (ty4 ti) _ 21 rfl reg R k hk
theorem w_length (l : Launch) (D : va_G) (ti : Nat → ClassId) (ad : Nat → Nat) (u : MT) (pi ex de : Nat) (xi xb di db fi fb : Int32) (ob reg : Nat → Nat) (kq : Int32 × Bool × Bool × Int32 × Int64) (ca va fv : Int32) (R : Nat → Cap) (k : Nat) (hk : k < 48) : Cr l y_Cap_length (wl y_Cap_length b_Cap_length 1 (some .int)) (rmL 1) D clz (ty4 ti) [.ref (reg k)] (CW ad ti u pi ex de xi xb di db fi fb ob reg kq ca va fv R) (some (.int (cLen (cbase (R k).2.2 (R k).2.1) (ctop (R k).2.2 (R k).2.1)))) := by
  rw [CW_X]
  exact g_length l D (ty4 ti) _ 21 rfl reg R k hk
theorem w_covers (l : Launch) (D : va_G) (ti : Nat → ClassId) (ad : Nat → Nat) (u : MT) (pi ex de : Nat) (xi xb di db fi fb : Int32) (ob reg : Nat → Nat) (kq : Int32 × Bool × Bool × Int32 × Int64) (ca va fv : Int32) (R : Nat → Cap) (k : Nat) (hk : k < 48) (x : Int32) (y : Int64) : Cr l y_Cap_covers (wl y_Cap_covers b_Cap_covers 6 (some .boolean)) (rmL 0) D clz (ty4 ti) [.ref (reg k), .int x, .long y] (CW ad ti u pi ex de xi xb di db fi fb ob reg kq ca va fv R) (some (.int (jb (cCov (cbase (R k).2.2 (R k).2.1) (ctop (R k).2.2 (R k).2.1) x y)))) := by
  rw [CW_X]
  exact g_covers l D (ty4 ti) _ 21 rfl reg R k hk x y
theorem w_isWithin (l : Launch) (D : va_G) (ti : Nat → ClassId) (ad : Nat → Nat) (u : MT) (pi ex de : Nat) (xi xb di db fi fb : Int32) (ob reg : Nat → Nat) (kq : Int32 × Bool × Bool × Int32 × Int64) (ca va fv : Int32) (R : Nat → Cap) (k : Nat) (hk : k < 48) (j : Nat) (hj : j < 48) (hkj : k ≠ j) : Cr l y_Cap_isWithin (wl y_Cap_isWithin b_Cap_isWithin 2 (some .boolean)) (rmL 1) D clz (ty4 ti) [.ref (reg k), .ref (reg j)] (CW ad ti u pi ex de xi xb di db fi fb ob reg kq ca va fv R) (some (.int (jb (cWith (R k).2.2 (cbase (R k).2.2 (R k).2.1) (ctop (R k).2.2 (R k).2.1) (R j).2.2 (cbase (R j).2.2 (R j).2.1) (ctop (R j).2.2 (R j).2.1))))) := by
  rw [CW_X]
  exact g_isWithin l D (ty4 ti) _ 21 rfl reg R k hk j hj hkj
theorem w_becomeNumber (l : Launch) (D : va_G) (ti : Nat → ClassId) (ad : Nat → Nat) (u : MT) (pi ex de : Nat) (xi xb di db fi fb : Int32) (ob reg : Nat → Nat) (kq : Int32 × Bool × Bool × Int32 × Int64) (ca va fv : Int32) (R : Nat → Cap) (k : Nat) (hk : k < 48) (x : Int32) : Cg l y_Cap_becomeNumber (wl y_Cap_becomeNumber b_Cap_becomeNumber 2 none) (rmL 0) D clz (ty4 ti) [.ref (reg k), .int x] (CW ad ti u pi ex de xi xb di db fi fb ob reg kq ca va fv R) (fun _ : Unit => none) (fun _ => CW ad ti u pi ex de xi xb di db fi fb ob reg kq ca va fv (va_up R k ((false, x, 1000194) : Cap))) (fun _ => True) := by
  simp only [CW_X]
  exact g_becomeNumber l D (ty4 ti) _ 21 rfl reg R k hk x
theorem w_define (l : Launch) (D : va_G) (ti : Nat → ClassId) (ad : Nat → Nat) (u : MT) (pi ex de : Nat) (xi xb di db fi fb : Int32) (ob reg : Nat → Nat) (kq : Int32 × Bool × Bool × Int32 × Int64) (ca va fv : Int32) (R : Nat → Cap) (k : Nat) (hk : k < 48) (nt : Bool) (na nm : Int32) : Cg l y_Cap_define (wl y_Cap_define b_Cap_define 4 none) (rmL 2) D clz (ty4 ti) [.ref (reg k), .int (jb nt), .int na, .int nm] (CW ad ti u pi ex de xi xb di db fi fb ob reg kq ca va fv R) (fun _ : Unit => none) (fun _ => CW ad ti u pi ex de xi xb di db fi fb ob reg kq ca va fv (va_up R k ((nt, na, nm) : Cap))) (fun _ => True) := by
  simp only [CW_X]
  exact g_define l D (ty4 ti) _ 21 rfl reg R k hk nt na nm
theorem w_moveTo (l : Launch) (D : va_G) (ti : Nat → ClassId) (ad : Nat → Nat) (u : MT) (pi ex de : Nat) (xi xb di db fi fb : Int32) (ob reg : Nat → Nat) (kq : Int32 × Bool × Bool × Int32 × Int64) (ca va fv : Int32) (R : Nat → Cap) (k : Nat) (hk : k < 48) (x : Int32) : Cg l y_Cap_moveTo (wl y_Cap_moveTo b_Cap_moveTo 6 none) (rmL 2) D clz (ty4 ti) [.ref (reg k), .int x] (CW ad ti u pi ex de xi xb di db fi fb ob reg kq ca va fv R) (fun _ : Unit => none) (fun _ => CW ad ti u pi ex de xi xb di db fi fb ob reg kq ca va fv (va_up R k (cMvC (R k) x))) (fun _ => True) := by
  simp only [CW_X]
  exact g_moveTo l D (ty4 ti) _ 21 rfl reg R k hk x
theorem w_setType (l : Launch) (D : va_G) (ti : Nat → ClassId) (ad : Nat → Nat) (u : MT) (pi ex de : Nat) (xi xb di db fi fb : Int32) (ob reg : Nat → Nat) (kq : Int32 × Bool × Bool × Int32 × Int64) (ca va fv : Int32) (R : Nat → Cap) (k : Nat) (hk : k < 48) (x : Int32) : Cg l y_Cap_setType (wl y_Cap_setType b_Cap_setType 2 none) (rmL 0) D clz (ty4 ti) [.ref (reg k), .int x] (CW ad ti u pi ex de xi xb di db fi fb ob reg kq ca va fv R) (fun _ : Unit => none) (fun _ => CW ad ti u pi ex de xi xb di db fi fb ob reg kq ca va fv (va_up R k (cTyC (R k) x))) (fun _ => True) := by
  simp only [CW_X]
  exact g_setType l D (ty4 ti) _ 21 rfl reg R k hk x
theorem w_setPerms (l : Launch) (D : va_G) (ti : Nat → ClassId) (ad : Nat → Nat) (u : MT) (pi ex de : Nat) (xi xb di db fi fb : Int32) (ob reg : Nat → Nat) (kq : Int32 × Bool × Bool × Int32 × Int64) (ca va fv : Int32) (R : Nat → Cap) (k : Nat) (hk : k < 48) (x : Int32) : Cg l y_Cap_setPerms (wl y_Cap_setPerms b_Cap_setPerms 2 none) (rmL 0) D clz (ty4 ti) [.ref (reg k), .int x] (CW ad ti u pi ex de xi xb di db fi fb ob reg kq ca va fv R) (fun _ : Unit => none) (fun _ => CW ad ti u pi ex de xi xb di db fi fb ob reg kq ca va fv (va_up R k (((R k).1, (R k).2.1, cSetP (R k).2.2 x) : Cap))) (fun _ => True) := by
  simp only [CW_X]
  exact g_setPerms l D (ty4 ti) _ 21 rfl reg R k hk x
theorem w_setBounds (l : Launch) (D : va_G) (ti : Nat → ClassId) (ad : Nat → Nat) (u : MT) (pi ex de : Nat) (xi xb di db fi fb : Int32) (ob reg : Nat → Nat) (kq : Int32 × Bool × Bool × Int32 × Int64) (ca va fv : Int32) (R : Nat → Cap) (k : Nat) (hk : k < 48) (x : Int32) : Cg l y_Cap_setBounds (wl y_Cap_setBounds b_Cap_setBounds 2 none) (rmL 2) D clz (ty4 ti) [.ref (reg k), .int x] (CW ad ti u pi ex de xi xb di db fi fb ob reg kq ca va fv R) (fun _ : Unit => none) (fun _ => CW ad ti u pi ex de xi xb di db fi fb ob reg kq ca va fv (va_up R k (((R k).1, (R k).2.1, cSetB (R k).2.2 x) : Cap))) (fun _ => True) := by
  simp only [CW_X]
  exact g_setBounds l D (ty4 ti) _ 21 rfl reg R k hk x
theorem w_become (l : Launch) (D : va_G) (ti : Nat → ClassId) (ad : Nat → Nat) (u : MT) (pi ex de : Nat) (xi xb di db fi fb : Int32) (ob reg : Nat → Nat) (kq : Int32 × Bool × Bool × Int32 × Int64) (ca va fv : Int32) (R : Nat → Cap) (k : Nat) (hk : k < 48) (j : Nat) (hj : j < 48) (hkj : k ≠ j) : Cg l y_Cap_become (wl y_Cap_become b_Cap_become 2 none) (rmL 0) D clz (ty4 ti) [.ref (reg k), .ref (reg j)] (CW ad ti u pi ex de xi xb di db fi fb ob reg kq ca va fv R) (fun _ : Unit => none) (fun _ => CW ad ti u pi ex de xi xb di db fi fb ob reg kq ca va fv (va_up R k (R j))) (fun _ => True) := by
  simp only [CW_X]
  exact g_become l D (ty4 ti) _ 21 rfl reg R k hk j hj hkj
set_option maxHeartbeats 4000000 in
set_option maxRecDepth 100000 in
theorem c_Sta_fault (l : Launch) (D : va_G) (ti : Nat → ClassId) (ad : Nat → Nat) (u : MT) (pi ex de : Nat) (xi xb di db fi fb : Int32) (ob reg : Nat → Nat) (kq : Int32 × Bool × Bool × Int32 × Int64) (ca va fv : Int32) (R : Nat → Cap) (t x : Int32) : Cg l y_Sta_fault (wl y_Sta_fault b_Sta_fault 3 (some .int)) (rmL 0) D clz (ty4 ti) [.ref (ob 0), .int t, .int x] (CW ad ti u pi ex de xi xb di db fi fb ob reg kq ca va fv R) (fun _ : Unit => some (.int t)) (fun _ => (CW ad ti u pi ex de xi xb di db fi fb ob reg kq ca va x R)) (fun _ => True) := by
  refine Cg.ofF (plainFor_of_name (by decide)) (Nat.le_of_ble_eq_true rfl) ?_
  intro p9 e9 s9 m9 b9 me9 c9 ls S hr hlk hl hw
  obtain ⟨hx, hb, hml, hown, hts⟩ := id S
  have hl : lv_has ls 3 [(0, .ref (ob 0)), (1, .int t), (2, .int x)] := hl
  refine lv_aload_n hx hb d_Sta_fault_0 rfl (lv_at hl 0 rfl) ?_
  refine lv_iload_n hx hb d_Sta_fault_1 rfl (lv_at hl 2 rfl) ?_
  refine q_put (v := .int x) S hw ly_Sta t_Sta t_Sta_ok n_Sta 16 rfl rfl 7 (by decide) tb_1_227 rfl rfl rfl rfl (Nat.le_of_ble_eq_true rfl) d_Sta_fault_2 (fun H locs hw => ?_)
  have hw : Lv _ _ _ _ _ (CW ad ti u pi ex de xi xb di db fi fb ob reg kq ca va x R) _ _ _ := hw
  refine lv_iload_n hx hb d_Sta_fault_5 rfl (lv_at hl 1 rfl) ?_
  exact hw.riz S hr hlk (rfl) d_Sta_fault_6 () (rfl) (trivial) (rfl)
set_option maxHeartbeats 4000000 in
set_option maxRecDepth 100000 in
theorem c_Sta_capabilityFault (l : Launch) (D : va_G) (ti : Nat → ClassId) (ad : Nat → Nat) (u : MT) (pi ex de : Nat) (xi xb di db fi fb : Int32) (ob reg : Nat → Nat) (kq : Int32 × Bool × Bool × Int32 × Int64) (ca va fv : Int32) (R : Nat → Cap) (k : Nat) (x : Int32) : Cg l y_Sta_capabilityFault (wl y_Sta_capabilityFault b_Sta_capabilityFault 3 (some .int)) (rmL 1) D clz (ty4 ti) [.ref (ob 0), .int (nI k), .int x] (CW ad ti u pi ex de xi xb di db fi fb ob reg kq ca va fv R) (fun _ : Unit => some (.int 28)) (fun _ => (CW ad ti u pi ex de xi xb di db fi fb ob reg kq ca va (32 * nI k + x) R)) (fun _ => True) := by
  refine Cg.ofF (plainFor_of_name (by decide)) (Nat.le_of_ble_eq_true rfl) ?_
  intro p9 e9 s9 m9 b9 me9 c9 ls S hr hlk hl hw
  obtain ⟨hx, hb, hml, hown, hts⟩ := id S
  have hl : lv_has ls 3 [(0, .ref (ob 0)), (1, .int (nI k)), (2, .int x)] := hl
  refine lv_aload_n hx hb d_Sta_capabilityFault_0 rfl (lv_at hl 0 rfl) ?_
  refine lv_bipush (v := 28) hx hb d_Sta_capabilityFault_1 (by decide) ?_
  refine lv_bipush (v := 32) hx hb d_Sta_capabilityFault_3 (by decide) ?_
  refine lv_iload_n hx hb d_Sta_capabilityFault_5 rfl (lv_at hl 1 rfl) ?_
  refine lv_imul hx hb d_Sta_capabilityFault_6 ?_
  refine q_topi (z := nI (32 * k)) (pk_mul 32 k) ?_
  refine q_topi (z := ((32 : Int32) * nI k)) ((pk_mul 32 k).symm) ?_
  refine lv_iload_n hx hb d_Sta_capabilityFault_7 rfl (lv_at hl 2 rfl) ?_
  refine lv_iadd hx hb d_Sta_capabilityFault_8 ?_
  refine q_cg (q_runV (As := [.int (28 : Int32), .int (((32 : Int32) * nI k) + x)]) (rest := []) S (c_Sta_fault l D ti ad u pi ex de xi xb di db fi fb ob reg kq ca va fv R (28 : Int32) (((32 : Int32) * nI k) + x)) (cw_v hts tb_3_166 k_Sta_fault rfl rfl ⟨by decide, by decide⟩) hw 16 rfl rfl rfl hl.1 rfl (Nat.le_of_ble_eq_true rfl) d_Sta_capabilityFault_9 ⟨Nat.zero_le _, Nat.zero_le _⟩) hw (fun z hD => qD_same hD rfl) (fun z9 H locs hp9 hw => ?_)
  refine W.eq (g2 := F0 m9 12 ls [.int (28 : Int32)]) rfl ?_
  have hw : Lv _ _ _ _ _ (CW ad ti u pi ex de xi xb di db fi fb ob reg kq ca va (((32 : Int32) * nI k) + x) R) _ _ _ := hw
  exact hw.riz S hr hlk (rfl) d_Sta_capabilityFault_12 () (rfl) (trivial) (rfl)
set_option maxHeartbeats 4000000 in
set_option maxRecDepth 100000 in
theorem c_Sta_illegal (l : Launch) (D : va_G) (ti : Nat → ClassId) (ad : Nat → Nat) (u : MT) (pi ex de : Nat) (xi xb di db fi fb : Int32) (ob reg : Nat → Nat) (kq : Int32 × Bool × Bool × Int32 × Int64) (ca va fv : Int32) (R : Nat → Cap) : Cg l y_Sta_illegal (wl y_Sta_illegal b_Sta_illegal 2 (some .int)) (rmL 1) D clz (ty4 ti) [.ref (ob 0), .ref ex] (CW ad ti u pi ex de xi xb di db fi fb ob reg kq ca va fv R) (fun _ : Unit => some (.int 2)) (fun _ => (CW ad ti u pi ex de xi xb di db fi fb ob reg kq ca va xb R)) (fun _ => True) := by
  refine Cg.ofF (plainFor_of_name (by decide)) (Nat.le_of_ble_eq_true rfl) ?_
  intro p9 e9 s9 m9 b9 me9 c9 ls S hr hlk hl hw
  obtain ⟨hx, hb, hml, hown, hts⟩ := id S
  have hl : lv_has ls 2 [(0, .ref (ob 0)), (1, .ref ex)] := hl
  refine lv_aload_n hx hb d_Sta_illegal_0 rfl (lv_at hl 0 rfl) ?_
  refine lv_iconst (v := 2) hx hb d_Sta_illegal_1 (by decide) ?_
  refine lv_aload_n hx hb d_Sta_illegal_2 rfl (lv_at hl 1 rfl) ?_
  refine q_get S hw ly_Ins 14 rfl rfl 1 (by decide) tb_1_148 rfl rfl d_Sta_illegal_3 ?_
  refine q_cg (q_runV (As := [.int (2 : Int32), .int xb]) (rest := []) S (c_Sta_fault l D ti ad u pi ex de xi xb di db fi fb ob reg kq ca va fv R (2 : Int32) xb) (cw_v hts tb_3_166 k_Sta_fault rfl rfl ⟨by decide, by decide⟩) hw 16 rfl rfl rfl hl.1 rfl (Nat.le_of_ble_eq_true rfl) d_Sta_illegal_6 ⟨Nat.zero_le _, Nat.zero_le _⟩) hw (fun z hD => qD_same hD rfl) (fun z9 H locs hp9 hw => ?_)
  refine W.eq (g2 := F0 m9 9 ls [.int (2 : Int32)]) rfl ?_
  have hw : Lv _ _ _ _ _ (CW ad ti u pi ex de xi xb di db fi fb ob reg kq ca va xb R) _ _ _ := hw
  exact hw.riz S hr hlk (rfl) d_Sta_illegal_9 () (rfl) (trivial) (rfl)
set_option maxHeartbeats 4000000 in
set_option maxRecDepth 100000 in
theorem c_Sta_authorityFault (l : Launch) (D : va_G) (ti : Nat → ClassId) (ad : Nat → Nat) (u : MT) (pi ex de : Nat) (xi xb di db fi fb : Int32) (ob reg : Nat → Nat) (kq : Int32 × Bool × Bool × Int32 × Int64) (ca va fv : Int32) (R : Nat → Cap) (k : Nat) (hk : k < 37) (p wr : Int32) (hwr : wr ≠ 0) : Cg l y_Sta_authorityFault (wl y_Sta_authorityFault b_Sta_authorityFault 5 (some .int)) (rmL 2) D clz (ty4 ti) [.ref (ob 0), .int (nI k), .int p, .int wr] (CW ad ti u pi ex de xi xb di db fi fb ob reg kq ca va fv R) (fun _ : Unit => some (.int (aTr (authF (R k) p wr)))) (fun _ => (CW ad ti u pi ex de xi xb di db fi fb ob reg kq ca va (aFv fv k (authF (R k) p wr)) R)) (fun _ => True) := by
  refine Cg.ofF (plainFor_of_name (by decide)) (Nat.le_of_ble_eq_true rfl) ?_
  intro p9 e9 s9 m9 b9 me9 c9 ls S hr hlk hl hw
  obtain ⟨hx, hb, hml, hown, hts⟩ := id S
  have hl : lv_has ls 5 [(0, .ref (ob 0)), (1, .int (nI k)), (2, .int p), (3, .int wr)] := hl
  refine lv_aload_n hx hb d_Sta_authorityFault_0 rfl (lv_at hl 0 rfl) ?_
  refine q_get S hw ly_Sta 16 rfl rfl 0 (by decide) tb_1_206 rfl rfl d_Sta_authorityFault_1 ?_
  refine lv_iload_n hx hb d_Sta_authorityFault_4 rfl (lv_at hl 1 rfl) ?_
  refine q_aaldN (k := k) S hw 17 3 rfl rfl (by first | assumption | omega) (by decide) d_Sta_authorityFault_5 ?_
  refine lv_astore (lv' := [(4, .ref (reg k)), (0, .ref (ob 0)), (1, .int (nI k)), (2, .int p), (3, .int wr)]) hx hb d_Sta_authorityFault_6 hl (by decide) rfl (fun ls hl => ?_)
  refine lv_aload hx hb d_Sta_authorityFault_8 (lv_at hl 0 rfl) ?_
  refine q_get S hw ly_Cap (21 + (k)) (CW_at (by first | decide | omega)) rfl 0 (by decide) tb_1_47 rfl rfl d_Sta_authorityFault_10 ?_
  refine q_ifz_ne S d_Sta_authorityFault_13 rfl (fun h13 => ?_) (fun h13 => ?_)
  · refine lv_aload hx hb d_Sta_authorityFault_23 (lv_at hl 0 rfl) ?_
    refine q_cr (q_runV (As := []) (rest := []) S (w_isOpen l D ti ad u pi ex de xi xb di db fi fb ob reg kq ca va fv R (k) (by first | decide | omega)) (cw_v hts tb_3_170 k_Cap_isOpen rfl rfl ⟨by decide, by decide⟩) hw (21 + (k)) (CW_at (by first | decide | omega)) rfl rfl hl.1 rfl (Nat.le_of_ble_eq_true rfl) d_Sta_authorityFault_25 ⟨Nat.zero_le _, Nat.zero_le _⟩) ?_
    refine W.eq (g2 := F0 m9 28 ls [.int (jb (cOpen (R k).2.2))]) rfl ?_
    refine q_ifz_ne S d_Sta_authorityFault_28 rfl (fun h28 => ?_) (fun h28 => ?_)
    · refine lv_aload hx hb d_Sta_authorityFault_38 (lv_at hl 0 rfl) ?_
      refine lv_iload_n hx hb d_Sta_authorityFault_40 rfl (lv_at hl 3 rfl) ?_
      refine q_cr (q_runV (As := [.int p]) (rest := []) S (w_may l D ti ad u pi ex de xi xb di db fi fb ob reg kq ca va fv R (k) (by first | decide | omega) p) (cw_v hts tb_3_178 k_Cap_may rfl rfl ⟨by decide, by decide⟩) hw (21 + (k)) (CW_at (by first | decide | omega)) rfl rfl hl.1 rfl (Nat.le_of_ble_eq_true rfl) d_Sta_authorityFault_41 ⟨Nat.zero_le _, Nat.zero_le _⟩) ?_
      refine W.eq (g2 := F0 m9 44 ls [.int (jb (cMay (R k).2.2 p))]) rfl ?_
      refine q_ifz_eq S d_Sta_authorityFault_44 rfl (fun h44 => ?_) (fun h44 => ?_)
      · refine lv_aload_n hx hb d_Sta_authorityFault_51 rfl (lv_at hl 1 rfl) ?_
        refine lv_iload_n hx hb d_Sta_authorityFault_52 rfl (lv_at hl 2 rfl) ?_
        refine lv_iload_n hx hb d_Sta_authorityFault_53 rfl (lv_at hl 4 rfl) ?_
        refine q_cg (q_runV (As := [.int (nI k), .int wr]) (rest := []) S (c_Sta_capabilityFault l D ti ad u pi ex de xi xb di db fi fb ob reg kq ca va fv R k wr) (cw_v hts tb_3_162 k_Sta_capabilityFault rfl rfl ⟨by decide, by decide⟩) hw 16 rfl rfl rfl hl.1 rfl (Nat.le_of_ble_eq_true rfl) d_Sta_authorityFault_54 ⟨Nat.zero_le _, Nat.zero_le _⟩) hw (fun z hD => qD_same hD rfl) (fun z9 H locs hp9 hw => ?_)
        refine W.eq (g2 := F0 m9 57 ls [.int (28 : Int32)]) rfl ?_
        have hw : Lv _ _ _ _ _ (CW ad ti u pi ex de xi xb di db fi fb ob reg kq ca va (32 * nI k + wr) R) _ _ _ := hw
        exact hw.riz S hr hlk (rfl) d_Sta_authorityFault_57 () (by simp [authF, aTr, hwr, h13, h28, h44]) (trivial) (by simp [authF, aFv, hwr, h13, h28, h44])
      · refine lv_iconst (v := -1) hx hb d_Sta_authorityFault_47 (by decide) ?_
        refine lv_goto hx hb d_Sta_authorityFault_48 rfl ?_
        exact hw.riz S hr hlk (rfl) d_Sta_authorityFault_57 () (by simp [authF, aTr, hwr, h13, h28, h44]) (trivial) (by simp [authF, aFv, hwr, h13, h28, h44])
    · refine lv_aload_n hx hb d_Sta_authorityFault_31 rfl (lv_at hl 1 rfl) ?_
      refine lv_iload_n hx hb d_Sta_authorityFault_32 rfl (lv_at hl 2 rfl) ?_
      refine lv_iconst (v := 3) hx hb d_Sta_authorityFault_33 (by decide) ?_
      refine q_cg (q_runV (As := [.int (nI k), .int (3 : Int32)]) (rest := []) S (c_Sta_capabilityFault l D ti ad u pi ex de xi xb di db fi fb ob reg kq ca va fv R k (3 : Int32)) (cw_v hts tb_3_162 k_Sta_capabilityFault rfl rfl ⟨by decide, by decide⟩) hw 16 rfl rfl rfl hl.1 rfl (Nat.le_of_ble_eq_true rfl) d_Sta_authorityFault_34 ⟨Nat.zero_le _, Nat.zero_le _⟩) hw (fun z hD => qD_same hD rfl) (fun z9 H locs hp9 hw => ?_)
      refine W.eq (g2 := F0 m9 37 ls [.int (28 : Int32)]) rfl ?_
      have hw : Lv _ _ _ _ _ (CW ad ti u pi ex de xi xb di db fi fb ob reg kq ca va (32 * nI k + (3 : Int32)) R) _ _ _ := hw
      exact hw.riz S hr hlk (rfl) d_Sta_authorityFault_37 () (by simp [authF, aTr, hwr, h13, h28]) (trivial) (by simp [authF, aFv, hwr, h13, h28])
  · refine lv_aload_n hx hb d_Sta_authorityFault_16 rfl (lv_at hl 1 rfl) ?_
    refine lv_iload_n hx hb d_Sta_authorityFault_17 rfl (lv_at hl 2 rfl) ?_
    refine lv_iconst (v := 2) hx hb d_Sta_authorityFault_18 (by decide) ?_
    refine q_cg (q_runV (As := [.int (nI k), .int (2 : Int32)]) (rest := []) S (c_Sta_capabilityFault l D ti ad u pi ex de xi xb di db fi fb ob reg kq ca va fv R k (2 : Int32)) (cw_v hts tb_3_162 k_Sta_capabilityFault rfl rfl ⟨by decide, by decide⟩) hw 16 rfl rfl rfl hl.1 rfl (Nat.le_of_ble_eq_true rfl) d_Sta_authorityFault_19 ⟨Nat.zero_le _, Nat.zero_le _⟩) hw (fun z hD => qD_same hD rfl) (fun z9 H locs hp9 hw => ?_)
    refine W.eq (g2 := F0 m9 22 ls [.int (28 : Int32)]) rfl ?_
    have hw : Lv _ _ _ _ _ (CW ad ti u pi ex de xi xb di db fi fb ob reg kq ca va (32 * nI k + (2 : Int32)) R) _ _ _ := hw
    exact hw.riz S hr hlk (rfl) d_Sta_authorityFault_22 () (by simp [authF, aTr, hwr, h13]) (trivial) (by simp [authF, aFv, hwr, h13])
set_option maxHeartbeats 4000000 in
set_option maxRecDepth 100000 in
theorem c_Sta_placeFault (l : Launch) (D : va_G) (ti : Nat → ClassId) (ad : Nat → Nat) (u : MT) (pi ex de : Nat) (xi xb di db fi fb : Int32) (ob reg : Nat → Nat) (kq : Int32 × Bool × Bool × Int32 × Int64) (ca va fv : Int32) (R : Nat → Cap) (k : Nat) (hk : k < 37) (x n tm : Int32) : Cg l y_Sta_placeFault (wl y_Sta_placeFault b_Sta_placeFault 5 (some .int)) (rmL 2) D clz (ty4 ti) [.ref (ob 0), .int (nI k), .int x, .int n, .int tm] (CW ad ti u pi ex de xi xb di db fi fb ob reg kq ca va fv R) (fun _ : Unit => some (.int (plF fv k (R k) x n tm).1)) (fun _ => (CW ad ti u pi ex de xi xb di db fi fb ob reg kq ca va ((plF fv k (R k) x n tm).2) R)) (fun _ => True) := by
  refine Cg.ofF (plainFor_of_name (by decide)) (Nat.le_of_ble_eq_true rfl) ?_
  intro p9 e9 s9 m9 b9 me9 c9 ls S hr hlk hl hw
  obtain ⟨hx, hb, hml, hown, hts⟩ := id S
  have hl : lv_has ls 5 [(0, .ref (ob 0)), (1, .int (nI k)), (2, .int x), (3, .int n), (4, .int tm)] := hl
  refine lv_aload_n hx hb d_Sta_placeFault_0 rfl (lv_at hl 0 rfl) ?_
  refine q_get S hw ly_Sta 16 rfl rfl 0 (by decide) tb_1_206 rfl rfl d_Sta_placeFault_1 ?_
  refine lv_iload_n hx hb d_Sta_placeFault_4 rfl (lv_at hl 1 rfl) ?_
  refine q_aaldN (k := k) S hw 17 3 rfl rfl (by first | assumption | omega) (by decide) d_Sta_placeFault_5 ?_
  refine lv_iload_n hx hb d_Sta_placeFault_6 rfl (lv_at hl 2 rfl) ?_
  refine lv_iload_n hx hb d_Sta_placeFault_7 rfl (lv_at hl 3 rfl) ?_
  refine lv_i2l (v := (n.toInt64)) hx hb d_Sta_placeFault_8 rfl ?_
  refine q_cr (q_runV (As := [.int x, .long (n.toInt64)]) (rest := []) S (w_covers l D ti ad u pi ex de xi xb di db fi fb ob reg kq ca va fv R (k) (by first | decide | omega) x (n.toInt64)) (cw_v hts tb_3_186 k_Cap_covers rfl rfl ⟨by decide, by decide⟩) hw (21 + (k)) (CW_at (by first | decide | omega)) rfl rfl hl.1 rfl (Nat.le_of_ble_eq_true rfl) d_Sta_placeFault_9 ⟨Nat.zero_le _, Nat.zero_le _⟩) ?_
  refine W.eq (g2 := F0 m9 12 ls [.int (jb (cCov (cbase (R k).2.2 (R k).2.1) (ctop (R k).2.2 (R k).2.1) x (n.toInt64)))]) rfl ?_
  refine q_ifz_ne S d_Sta_placeFault_12 rfl (fun h12 => ?_) (fun h12 => ?_)
  · refine lv_iload_n hx hb d_Sta_placeFault_22 rfl (lv_at hl 2 rfl) ?_
    refine lv_iload_n hx hb d_Sta_placeFault_23 rfl (lv_at hl 3 rfl) ?_
    refine lv_iconst (v := 1) hx hb d_Sta_placeFault_24 (by decide) ?_
    refine lv_isub hx hb d_Sta_placeFault_25 ?_
    refine lv_iand hx hb d_Sta_placeFault_26 ?_
    refine lv_if_eq hx hb d_Sta_placeFault_27 rfl (fun h27 => ?_) (fun h27 => ?_)
    · refine lv_iload_n hx hb d_Sta_placeFault_38 rfl (lv_at hl 2 rfl) ?_
      refine lv_if_lt hx hb d_Sta_placeFault_39 rfl (fun h39 => ?_) (fun h39 => ?_)
      · refine lv_aload_n hx hb d_Sta_placeFault_53 rfl (lv_at hl 0 rfl) ?_
        refine lv_iload hx hb d_Sta_placeFault_54 (lv_at hl 4 rfl) ?_
        refine lv_iconst (v := 1) hx hb d_Sta_placeFault_56 (by decide) ?_
        refine lv_iadd hx hb d_Sta_placeFault_57 ?_
        refine lv_iload_n hx hb d_Sta_placeFault_58 rfl (lv_at hl 2 rfl) ?_
        refine q_cg (q_runV (As := [.int (tm + (1 : Int32)), .int x]) (rest := []) S (c_Sta_fault l D ti ad u pi ex de xi xb di db fi fb ob reg kq ca va fv R (tm + (1 : Int32)) x) (cw_v hts tb_3_166 k_Sta_fault rfl rfl ⟨by decide, by decide⟩) hw 16 rfl rfl rfl hl.1 rfl (Nat.le_of_ble_eq_true rfl) d_Sta_placeFault_59 ⟨Nat.zero_le _, Nat.zero_le _⟩) hw (fun z hD => qD_same hD rfl) (fun z9 H locs hp9 hw => ?_)
        refine W.eq (g2 := F0 m9 62 ls [.int (tm + (1 : Int32))]) rfl ?_
        have hw : Lv _ _ _ _ _ (CW ad ti u pi ex de xi xb di db fi fb ob reg kq ca va x R) _ _ _ := hw
        exact hw.riz S hr hlk (rfl) d_Sta_placeFault_62 () (by simp [plF, h12, h27, h39]) (trivial) (by simp [plF, h12, h27, h39])
      · refine lv_iload_n hx hb d_Sta_placeFault_42 rfl (lv_at hl 2 rfl) ?_
        refine lv_sipush (v := 16384) hx hb d_Sta_placeFault_43 (by decide) ?_
        refine lv_icmp_ge hx hb d_Sta_placeFault_46 rfl (fun h46 => ?_) (fun h46 => ?_)
        · refine lv_aload_n hx hb d_Sta_placeFault_53 rfl (lv_at hl 0 rfl) ?_
          refine lv_iload hx hb d_Sta_placeFault_54 (lv_at hl 4 rfl) ?_
          refine lv_iconst (v := 1) hx hb d_Sta_placeFault_56 (by decide) ?_
          refine lv_iadd hx hb d_Sta_placeFault_57 ?_
          refine lv_iload_n hx hb d_Sta_placeFault_58 rfl (lv_at hl 2 rfl) ?_
          refine q_cg (q_runV (As := [.int (tm + (1 : Int32)), .int x]) (rest := []) S (c_Sta_fault l D ti ad u pi ex de xi xb di db fi fb ob reg kq ca va fv R (tm + (1 : Int32)) x) (cw_v hts tb_3_166 k_Sta_fault rfl rfl ⟨by decide, by decide⟩) hw 16 rfl rfl rfl hl.1 rfl (Nat.le_of_ble_eq_true rfl) d_Sta_placeFault_59 ⟨Nat.zero_le _, Nat.zero_le _⟩) hw (fun z hD => qD_same hD rfl) (fun z9 H locs hp9 hw => ?_)
          refine W.eq (g2 := F0 m9 62 ls [.int (tm + (1 : Int32))]) rfl ?_
          have hw : Lv _ _ _ _ _ (CW ad ti u pi ex de xi xb di db fi fb ob reg kq ca va x R) _ _ _ := hw
          exact hw.riz S hr hlk (rfl) d_Sta_placeFault_62 () (by simp [plF, h12, h27, h39, h46]) (trivial) (by simp [plF, h12, h27, h39, h46])
        · refine lv_iconst (v := -1) hx hb d_Sta_placeFault_49 (by decide) ?_
          refine lv_goto hx hb d_Sta_placeFault_50 rfl ?_
          exact hw.riz S hr hlk (rfl) d_Sta_placeFault_62 () (by simp [plF, h12, h27, h39, h46]) (trivial) (by simp [plF, h12, h27, h39, h46])
    · refine lv_aload_n hx hb d_Sta_placeFault_30 rfl (lv_at hl 0 rfl) ?_
      refine lv_iload hx hb d_Sta_placeFault_31 (lv_at hl 4 rfl) ?_
      refine lv_iload_n hx hb d_Sta_placeFault_33 rfl (lv_at hl 2 rfl) ?_
      refine q_cg (q_runV (As := [.int tm, .int x]) (rest := []) S (c_Sta_fault l D ti ad u pi ex de xi xb di db fi fb ob reg kq ca va fv R tm x) (cw_v hts tb_3_166 k_Sta_fault rfl rfl ⟨by decide, by decide⟩) hw 16 rfl rfl rfl hl.1 rfl (Nat.le_of_ble_eq_true rfl) d_Sta_placeFault_34 ⟨Nat.zero_le _, Nat.zero_le _⟩) hw (fun z hD => qD_same hD rfl) (fun z9 H locs hp9 hw => ?_)
      refine W.eq (g2 := F0 m9 37 ls [.int tm]) rfl ?_
      have hw : Lv _ _ _ _ _ (CW ad ti u pi ex de xi xb di db fi fb ob reg kq ca va x R) _ _ _ := hw
      exact hw.riz S hr hlk (rfl) d_Sta_placeFault_37 () (by simp [plF, h12, h27]) (trivial) (by simp [plF, h12, h27])
  · refine lv_aload_n hx hb d_Sta_placeFault_15 rfl (lv_at hl 0 rfl) ?_
    refine lv_iload_n hx hb d_Sta_placeFault_16 rfl (lv_at hl 1 rfl) ?_
    refine lv_iconst (v := 1) hx hb d_Sta_placeFault_17 (by decide) ?_
    refine q_cg (q_runV (As := [.int (nI k), .int (1 : Int32)]) (rest := []) S (c_Sta_capabilityFault l D ti ad u pi ex de xi xb di db fi fb ob reg kq ca va fv R k (1 : Int32)) (cw_v hts tb_3_162 k_Sta_capabilityFault rfl rfl ⟨by decide, by decide⟩) hw 16 rfl rfl rfl hl.1 rfl (Nat.le_of_ble_eq_true rfl) d_Sta_placeFault_18 ⟨Nat.zero_le _, Nat.zero_le _⟩) hw (fun z hD => qD_same hD rfl) (fun z9 H locs hp9 hw => ?_)
    refine W.eq (g2 := F0 m9 21 ls [.int (28 : Int32)]) rfl ?_
    have hw : Lv _ _ _ _ _ (CW ad ti u pi ex de xi xb di db fi fb ob reg kq ca va (32 * nI k + (1 : Int32)) R) _ _ _ := hw
    exact hw.riz S hr hlk (rfl) d_Sta_placeFault_21 () (by simp [plF, h12]) (trivial) (by simp [plF, h12])
set_option maxHeartbeats 4000000 in
set_option maxRecDepth 100000 in
theorem c_Sta_pccFault (l : Launch) (D : va_G) (ti : Nat → ClassId) (ad : Nat → Nat) (u : MT) (pi ex de : Nat) (xi xb di db fi fb : Int32) (ob reg : Nat → Nat) (kq : Int32 × Bool × Bool × Int32 × Int64) (ca va fv : Int32) (R : Nat → Cap) : Cg l y_Sta_pccFault (wl y_Sta_pccFault b_Sta_pccFault 2 (some .int)) (rmL 3) D clz (ty4 ti) [.ref (ob 0)] (CW ad ti u pi ex de xi xb di db fi fb ob reg kq ca va fv R) (fun _ : Unit => some (.int (pcF fv (R 32)).1)) (fun _ => (CW ad ti u pi ex de xi xb di db fi fb ob reg kq ca va ((pcF fv (R 32)).2) R)) (fun _ => True) := by
  refine Cg.ofF (plainFor_of_name (by decide)) (Nat.le_of_ble_eq_true rfl) ?_
  intro p9 e9 s9 m9 b9 me9 c9 ls S hr hlk hl hw
  obtain ⟨hx, hb, hml, hown, hts⟩ := id S
  have hl : lv_has ls 2 [(0, .ref (ob 0))] := hl
  refine lv_aload_n hx hb d_Sta_pccFault_0 rfl (lv_at hl 0 rfl) ?_
  refine lv_bipush (v := 32) hx hb d_Sta_pccFault_1 (by decide) ?_
  refine lv_iconst (v := 1) hx hb d_Sta_pccFault_3 (by decide) ?_
  refine lv_bipush (v := 17) hx hb d_Sta_pccFault_4 (by decide) ?_
  refine q_cg (q_runV (As := [.int (32 : Int32), .int (1 : Int32), .int (17 : Int32)]) (rest := []) S (c_Sta_authorityFault l D ti ad u pi ex de xi xb di db fi fb ob reg kq ca va fv R 32 (by first | decide | omega) (1 : Int32) (17 : Int32) (by decide)) (cw_v hts tb_3_158 k_Sta_authorityFault rfl rfl ⟨by decide, by decide⟩) hw 16 rfl rfl rfl hl.1 rfl (Nat.le_of_ble_eq_true rfl) d_Sta_pccFault_6 ⟨Nat.zero_le _, Nat.zero_le _⟩) hw (fun z hD => qD_same hD rfl) (fun z9 H locs hp9 hw => ?_)
  refine W.eq (g2 := F0 m9 9 ls [.int (aTr (authF (R 32) (1 : Int32) (17 : Int32)))]) rfl ?_
  have hw : Lv _ _ _ _ _ (CW ad ti u pi ex de xi xb di db fi fb ob reg kq ca va (aFv fv 32 (authF (R 32) (1 : Int32) (17 : Int32))) R) _ _ _ := hw
  refine lv_istore_n (lv' := [(1, .int (aTr (authF (R 32) (1 : Int32) (17 : Int32)))), (0, .ref (ob 0))]) hx hb d_Sta_pccFault_9 rfl hl (by decide) rfl (fun ls hl => ?_)
  refine lv_iload_n hx hb d_Sta_pccFault_10 rfl (lv_at hl 0 rfl) ?_
  refine lv_iconst (v := -1) hx hb d_Sta_pccFault_11 (by decide) ?_
  refine lv_icmp_eq hx hb d_Sta_pccFault_12 rfl (fun h12 => ?_) (fun h12 => ?_)
  · refine lv_aload_n hx hb d_Sta_pccFault_19 rfl (lv_at hl 1 rfl) ?_
    refine lv_bipush (v := 32) hx hb d_Sta_pccFault_20 (by decide) ?_
    refine lv_aload_n hx hb d_Sta_pccFault_22 rfl (lv_at hl 1 rfl) ?_
    refine q_get S hw ly_Sta 16 rfl rfl 1 (by decide) tb_1_210 rfl rfl d_Sta_pccFault_23 ?_
    refine q_get S hw ly_Cap (21 + (32)) (CW_at (by first | decide | omega)) rfl 1 (by decide) tb_1_53 rfl rfl d_Sta_pccFault_26 ?_
    refine lv_iconst (v := 4) hx hb d_Sta_pccFault_29 (by decide) ?_
    refine lv_iconst (v := 0) hx hb d_Sta_pccFault_30 (by decide) ?_
    refine q_cg (q_runV (As := [.int (32 : Int32), .int ((R 32).2.1), .int (4 : Int32), .int (0 : Int32)]) (rest := []) S (c_Sta_placeFault l D ti ad u pi ex de xi xb di db fi fb ob reg kq ca va (aFv fv 32 (authF (R 32) (1 : Int32) (17 : Int32))) R 32 (by first | decide | omega) ((R 32).2.1) (4 : Int32) (0 : Int32)) (cw_v hts tb_3_182 k_Sta_placeFault rfl rfl ⟨by decide, by decide⟩) hw 16 rfl rfl rfl hl.1 rfl (Nat.le_of_ble_eq_true rfl) d_Sta_pccFault_31 ⟨Nat.zero_le _, Nat.zero_le _⟩) hw (fun z hD => qD_same hD rfl) (fun z9 H locs hp9 hw => ?_)
    refine W.eq (g2 := F0 m9 34 ls [.int ((plF (aFv fv 32 (authF (R 32) (1 : Int32) (17 : Int32))) 32 (R 32) ((R 32).2.1) (4 : Int32) (0 : Int32)).1)]) rfl ?_
    have hw : Lv _ _ _ _ _ (CW ad ti u pi ex de xi xb di db fi fb ob reg kq ca va ((plF (aFv fv 32 (authF (R 32) (1 : Int32) (17 : Int32))) 32 (R 32) ((R 32).2.1) (4 : Int32) (0 : Int32)).2) R) _ _ _ := hw
    exact hw.riz S hr hlk (rfl) d_Sta_pccFault_34 () (by have h9 : authF (R 32) 1 17 = 0 := aTr_m1 h12; simp [pcF, h9, aFv]) (trivial) (by have h9 : authF (R 32) 1 17 = 0 := aTr_m1 h12; simp [pcF, h9, aFv])
  · refine lv_iload_n hx hb d_Sta_pccFault_15 rfl (lv_at hl 0 rfl) ?_
    refine lv_goto hx hb d_Sta_pccFault_16 rfl ?_
    exact hw.riz S hr hlk (rfl) d_Sta_pccFault_34 () (by have h9 : ¬ authF (R 32) 1 17 = 0 := aTr_28 h12; simp [pcF, h9, aFv, aTr]) (trivial) (by have h9 : ¬ authF (R 32) 1 17 = 0 := aTr_28 h12; simp [pcF, h9, aFv, aTr])
set_option maxHeartbeats 4000000 in
set_option maxRecDepth 100000 in
theorem c_Sta_answer (l : Launch) (D : va_G) (ti : Nat → ClassId) (ad : Nat → Nat) (u : MT) (pi ex de : Nat) (xi xb di db fi fb : Int32) (ob reg : Nat → Nat) (kq : Int32 × Bool × Bool × Int32 × Int64) (ca va fv : Int32) (R : Nat → Cap) (d : Nat) (hd : d < 32) : Cg l y_Sta_answer (wl y_Sta_answer b_Sta_answer 2 (some .int)) (rmL 1) D clz (ty4 ti) [.ref (ob 0), .int (nI d)] (CW ad ti u pi ex de xi xb di db fi fb ob reg kq ca va fv R) (fun _ : Unit => some (.int (-1))) (fun _ => (CW ad ti u pi ex de xi xb di db fi fb ob reg kq ca va fv (aR R d))) (fun _ => True) := by
  refine Cg.ofF (plainFor_of_name (by decide)) (Nat.le_of_ble_eq_true rfl) ?_
  intro p9 e9 s9 m9 b9 me9 c9 ls S hr hlk hl hw
  obtain ⟨hx, hb, hml, hown, hts⟩ := id S
  have hl : lv_has ls 2 [(0, .ref (ob 0)), (1, .int (nI d))] := hl
  refine lv_iload_n hx hb d_Sta_answer_0 rfl (lv_at hl 1 rfl) ?_
  refine lv_if_eq hx hb d_Sta_answer_1 rfl (fun h1 => ?_) (fun h1 => ?_)
  · refine lv_iconst (v := -1) hx hb d_Sta_answer_17 (by decide) ?_
    exact hw.riz S hr hlk (rfl) d_Sta_answer_18 () (rfl) (trivial) (by simp only [aR, if_pos h1])
  · refine lv_aload_n hx hb d_Sta_answer_4 rfl (lv_at hl 0 rfl) ?_
    refine q_get S hw ly_Sta 16 rfl rfl 0 (by decide) tb_1_206 rfl rfl d_Sta_answer_5 ?_
    refine lv_iload_n hx hb d_Sta_answer_8 rfl (lv_at hl 1 rfl) ?_
    refine q_aaldN (k := d) S hw 17 3 rfl rfl (by first | assumption | omega) (by decide) d_Sta_answer_9 ?_
    refine lv_aload_n hx hb d_Sta_answer_10 rfl (lv_at hl 0 rfl) ?_
    refine q_get S hw ly_Sta 16 rfl rfl 2 (by decide) tb_1_214 rfl rfl d_Sta_answer_11 ?_
    refine q_cg (q_runV (As := [.ref (reg 37)]) (rest := []) S (w_become l D ti ad u pi ex de xi xb di db fi fb ob reg kq ca va fv R (d) (by first | decide | omega) (37) (by first | decide | omega) (by first | decide | omega)) (cw_v hts tb_3_231 k_Cap_become rfl rfl ⟨by decide, by decide⟩) hw (21 + (d)) (CW_at (by first | decide | omega)) rfl rfl hl.1 rfl (Nat.le_of_ble_eq_true rfl) d_Sta_answer_14 ⟨Nat.zero_le _, Nat.zero_le _⟩) hw (fun z hD => CW_D hD) (fun z9 H locs hp9 hw => ?_)
    refine W.eq (g2 := F0 m9 17 ls []) rfl ?_
    have hw : Lv _ _ _ _ _ (CW ad ti u pi ex de xi xb di db fi fb ob reg kq ca va fv (va_up R (d) (R 37))) _ _ _ := hw
    refine lv_iconst (v := -1) hx hb d_Sta_answer_17 (by decide) ?_
    exact hw.riz S hr hlk (rfl) d_Sta_answer_18 () (rfl) (trivial) (by simp only [aR, if_neg h1])
set_option maxHeartbeats 4000000 in
set_option maxRecDepth 100000 in
theorem c_Sta_answerNumber (l : Launch) (D : va_G) (ti : Nat → ClassId) (ad : Nat → Nat) (u : MT) (pi ex de : Nat) (xi xb di db fi fb : Int32) (ob reg : Nat → Nat) (kq : Int32 × Bool × Bool × Int32 × Int64) (ca va fv : Int32) (R : Nat → Cap) (d : Nat) (hd : d < 32) (x : Int32) : Cg l y_Sta_answerNumber (wl y_Sta_answerNumber b_Sta_answerNumber 3 (some .int)) (rmL 1) D clz (ty4 ti) [.ref (ob 0), .int (nI d), .int x] (CW ad ti u pi ex de xi xb di db fi fb ob reg kq ca va fv R) (fun _ : Unit => some (.int (-1))) (fun _ => (CW ad ti u pi ex de xi xb di db fi fb ob reg kq ca va fv (nR R d x))) (fun _ => True) := by
  refine Cg.ofF (plainFor_of_name (by decide)) (Nat.le_of_ble_eq_true rfl) ?_
  intro p9 e9 s9 m9 b9 me9 c9 ls S hr hlk hl hw
  obtain ⟨hx, hb, hml, hown, hts⟩ := id S
  have hl : lv_has ls 3 [(0, .ref (ob 0)), (1, .int (nI d)), (2, .int x)] := hl
  refine lv_iload_n hx hb d_Sta_answerNumber_0 rfl (lv_at hl 1 rfl) ?_
  refine lv_if_eq hx hb d_Sta_answerNumber_1 rfl (fun h1 => ?_) (fun h1 => ?_)
  · refine lv_iconst (v := -1) hx hb d_Sta_answerNumber_14 (by decide) ?_
    exact hw.riz S hr hlk (rfl) d_Sta_answerNumber_15 () (rfl) (trivial) (by simp only [nR, if_pos h1])
  · refine lv_aload_n hx hb d_Sta_answerNumber_4 rfl (lv_at hl 0 rfl) ?_
    refine q_get S hw ly_Sta 16 rfl rfl 0 (by decide) tb_1_206 rfl rfl d_Sta_answerNumber_5 ?_
    refine lv_iload_n hx hb d_Sta_answerNumber_8 rfl (lv_at hl 1 rfl) ?_
    refine q_aaldN (k := d) S hw 17 3 rfl rfl (by first | assumption | omega) (by decide) d_Sta_answerNumber_9 ?_
    refine lv_iload_n hx hb d_Sta_answerNumber_10 rfl (lv_at hl 2 rfl) ?_
    refine q_cg (q_runV (As := [.int x]) (rest := []) S (w_becomeNumber l D ti ad u pi ex de xi xb di db fi fb ob reg kq ca va fv R (d) (by first | decide | omega) x) (cw_v hts tb_4_48 k_Cap_becomeNumber rfl rfl ⟨by decide, by decide⟩) hw (21 + (d)) (CW_at (by first | decide | omega)) rfl rfl hl.1 rfl (Nat.le_of_ble_eq_true rfl) d_Sta_answerNumber_11 ⟨Nat.zero_le _, Nat.zero_le _⟩) hw (fun z hD => CW_D hD) (fun z9 H locs hp9 hw => ?_)
    refine W.eq (g2 := F0 m9 14 ls []) rfl ?_
    have hw : Lv _ _ _ _ _ (CW ad ti u pi ex de xi xb di db fi fb ob reg kq ca va fv (va_up R (d) ((false, x, 1000194) : Cap))) _ _ _ := hw
    refine lv_iconst (v := -1) hx hb d_Sta_answerNumber_14 (by decide) ?_
    exact hw.riz S hr hlk (rfl) d_Sta_answerNumber_15 () (rfl) (trivial) (by simp only [nR, if_neg h1])
set_option maxHeartbeats 4000000 in
set_option maxRecDepth 100000 in
theorem c_Sta_link (l : Launch) (D : va_G) (ti : Nat → ClassId) (ad : Nat → Nat) (u : MT) (pi ex de : Nat) (xi xb di db fi fb : Int32) (ob reg : Nat → Nat) (kq : Int32 × Bool × Bool × Int32 × Int64) (ca va fv : Int32) (R : Nat → Cap) (d : Nat) (hd : d < 32) : Cg l y_Sta_link (wl y_Sta_link b_Sta_link 2 none) (rmL 3) D clz (ty4 ti) [.ref (ob 0), .int (nI d)] (CW ad ti u pi ex de xi xb di db fi fb ob reg kq ca va fv R) (fun _ : Unit => none) (fun _ => (CW ad ti u pi ex de xi xb di db fi fb ob reg kq ca va fv (aR (va_up R 37 (lkC (R 32))) d))) (fun _ => True) := by
  refine Cg.ofF (plainFor_of_name (by decide)) (Nat.le_of_ble_eq_true rfl) ?_
  intro p9 e9 s9 m9 b9 me9 c9 ls S hr hlk hl hw
  obtain ⟨hx, hb, hml, hown, hts⟩ := id S
  have hl : lv_has ls 2 [(0, .ref (ob 0)), (1, .int (nI d))] := hl
  refine lv_aload_n hx hb d_Sta_link_0 rfl (lv_at hl 0 rfl) ?_
  refine q_get S hw ly_Sta 16 rfl rfl 2 (by decide) tb_1_214 rfl rfl d_Sta_link_1 ?_
  refine lv_aload_n hx hb d_Sta_link_4 rfl (lv_at hl 0 rfl) ?_
  refine q_get S hw ly_Sta 16 rfl rfl 1 (by decide) tb_1_210 rfl rfl d_Sta_link_5 ?_
  refine q_cg (q_runV (As := [.ref (reg 32)]) (rest := []) S (w_become l D ti ad u pi ex de xi xb di db fi fb ob reg kq ca va fv R (37) (by first | decide | omega) (32) (by first | decide | omega) (by first | decide | omega)) (cw_v hts tb_3_231 k_Cap_become rfl rfl ⟨by decide, by decide⟩) hw (21 + (37)) (CW_at (by first | decide | omega)) rfl rfl hl.1 rfl (Nat.le_of_ble_eq_true rfl) d_Sta_link_8 ⟨Nat.zero_le _, Nat.zero_le _⟩) hw (fun z hD => CW_D hD) (fun z9 H locs hp9 hw => ?_)
  refine W.eq (g2 := F0 m9 11 ls []) rfl ?_
  have hw : Lv _ _ _ _ _ (CW ad ti u pi ex de xi xb di db fi fb ob reg kq ca va fv (va_up R (37) (R 32))) _ _ _ := hw
  refine lv_aload_n hx hb d_Sta_link_11 rfl (lv_at hl 0 rfl) ?_
  refine q_get S hw ly_Sta 16 rfl rfl 2 (by decide) tb_1_214 rfl rfl d_Sta_link_12 ?_
  refine lv_aload_n hx hb d_Sta_link_15 rfl (lv_at hl 0 rfl) ?_
  refine q_get S hw ly_Sta 16 rfl rfl 1 (by decide) tb_1_210 rfl rfl d_Sta_link_16 ?_
  refine q_get S hw ly_Cap (21 + (32)) (CW_at (by first | decide | omega)) rfl 1 (by decide) tb_1_53 rfl rfl d_Sta_link_19 ?_
  refine lv_iconst (v := 4) hx hb d_Sta_link_22 (by decide) ?_
  refine lv_iadd hx hb d_Sta_link_23 ?_
  refine q_cg (q_runV (As := [.int ((((va_up R (37) (R 32)) 32).2.1) + (4 : Int32))]) (rest := []) S (w_moveTo l D ti ad u pi ex de xi xb di db fi fb ob reg kq ca va fv (va_up R (37) (R 32)) (37) (by first | decide | omega) ((((va_up R (37) (R 32)) 32).2.1) + (4 : Int32))) (cw_v hts tb_4_202 k_Cap_moveTo rfl rfl ⟨by decide, by decide⟩) hw (21 + (37)) (CW_at (by first | decide | omega)) rfl rfl hl.1 rfl (Nat.le_of_ble_eq_true rfl) d_Sta_link_24 ⟨Nat.zero_le _, Nat.zero_le _⟩) hw (fun z hD => CW_D hD) (fun z9 H locs hp9 hw => ?_)
  refine W.eq (g2 := F0 m9 27 ls []) rfl ?_
  have hw : Lv _ _ _ _ _ (CW ad ti u pi ex de xi xb di db fi fb ob reg kq ca va fv (va_up (va_up R (37) (R 32)) (37) (cMvC ((va_up R (37) (R 32)) 37) ((((va_up R (37) (R 32)) 32).2.1) + (4 : Int32))))) _ _ _ := hw
  refine lv_aload_n hx hb d_Sta_link_27 rfl (lv_at hl 0 rfl) ?_
  refine q_get S hw ly_Sta 16 rfl rfl 2 (by decide) tb_1_214 rfl rfl d_Sta_link_28 ?_
  refine lv_bipush (v := 14) hx hb d_Sta_link_31 (by decide) ?_
  refine q_cg (q_runV (As := [.int (14 : Int32)]) (rest := []) S (w_setType l D ti ad u pi ex de xi xb di db fi fb ob reg kq ca va fv (va_up (va_up R (37) (R 32)) (37) (cMvC ((va_up R (37) (R 32)) 37) ((((va_up R (37) (R 32)) 32).2.1) + (4 : Int32)))) (37) (by first | decide | omega) (14 : Int32)) (cw_v hts tb_4_203 k_Cap_setType rfl rfl ⟨by decide, by decide⟩) hw (21 + (37)) (CW_at (by first | decide | omega)) rfl rfl hl.1 rfl (Nat.le_of_ble_eq_true rfl) d_Sta_link_33 ⟨Nat.zero_le _, Nat.zero_le _⟩) hw (fun z hD => CW_D hD) (fun z9 H locs hp9 hw => ?_)
  refine W.eq (g2 := F0 m9 36 ls []) rfl ?_
  have hw : Lv _ _ _ _ _ (CW ad ti u pi ex de xi xb di db fi fb ob reg kq ca va fv (va_up (va_up (va_up R (37) (R 32)) (37) (cMvC ((va_up R (37) (R 32)) 37) ((((va_up R (37) (R 32)) 32).2.1) + (4 : Int32)))) (37) (cTyC ((va_up (va_up R (37) (R 32)) (37) (cMvC ((va_up R (37) (R 32)) 37) ((((va_up R (37) (R 32)) 32).2.1) + (4 : Int32)))) 37) (14 : Int32)))) _ _ _ := hw
  refine lv_aload_n hx hb d_Sta_link_36 rfl (lv_at hl 0 rfl) ?_
  refine lv_iload_n hx hb d_Sta_link_37 rfl (lv_at hl 1 rfl) ?_
  refine q_cg (q_runV (As := [.int (nI d)]) (rest := []) S (c_Sta_answer l D ti ad u pi ex de xi xb di db fi fb ob reg kq ca va fv (va_up (va_up (va_up R (37) (R 32)) (37) (cMvC ((va_up R (37) (R 32)) 37) ((((va_up R (37) (R 32)) 32).2.1) + (4 : Int32)))) (37) (cTyC ((va_up (va_up R (37) (R 32)) (37) (cMvC ((va_up R (37) (R 32)) 37) ((((va_up R (37) (R 32)) 32).2.1) + (4 : Int32)))) 37) (14 : Int32))) d (by first | decide | omega)) (cw_v hts tb_4_204 k_Sta_answer rfl rfl ⟨by decide, by decide⟩) hw 16 rfl rfl rfl hl.1 rfl (Nat.le_of_ble_eq_true rfl) d_Sta_link_38 ⟨Nat.zero_le _, Nat.zero_le _⟩) hw (fun z hD => CW_D (qD_same hD rfl)) (fun z9 H locs hp9 hw => ?_)
  refine W.eq (g2 := F0 m9 41 ls [.int (-1 : Int32)]) rfl ?_
  have hw : Lv _ _ _ _ _ (CW ad ti u pi ex de xi xb di db fi fb ob reg kq ca va fv (aR (va_up (va_up (va_up R (37) (R 32)) (37) (cMvC ((va_up R (37) (R 32)) 37) ((((va_up R (37) (R 32)) 32).2.1) + (4 : Int32)))) (37) (cTyC ((va_up (va_up R (37) (R 32)) (37) (cMvC ((va_up R (37) (R 32)) 37) ((((va_up R (37) (R 32)) 32).2.1) + (4 : Int32)))) 37) (14 : Int32))) d)) _ _ _ := hw
  refine lv_pop hx hb d_Sta_link_41 rfl ?_
  exact hw.rv S hr hlk d_Sta_link_42 () (rfl) (trivial) (by simp only [up_up, va_up_self, va_up_37]; rfl)
