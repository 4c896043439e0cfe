/-! Exceptions: methods that throw before they have written anything. -/
abbrev exN : List String := ["java/lang/RuntimeException", "java/lang/Exception"]
/-- what a throw asks of the state: the tables' words of the exception and of Throwable, the message's string -/
def TW (ic : Nat) (X : String) (ix : Nat) (tx : String) (U : State) : Prop := (∀ (A : Array Value), ∀ a ∈ Bundle.ownAtoms "CheriCore" ic X exN, a.before A U = true) ∧ ∃ q, vk_R "CheriCore" ix tx q U
def QT (X : String) : Array Value → State → Outcome → State → Prop := fun _ st o t => ∃ (x : Nat) (cell : Cell), o = .threw x ∧ st.heap.size ≤ x ∧ t.heap[x]? = some cell ∧ cell.vm = .none ∧ st.vm.findClass X = some cell.cls ∧ ∀ q : Nat, q < st.heap.size → t.heap[q]? = st.heap[q]?
def MQT (below : List Frame) (X : String) (a : Array Value) (s : State) (mc ms : Nat) : State → Prop := fun t => ∃ o, t.status = .running ∧ Ended t below o ∧ QT X a s o t ∧ Jvm.Free.FrameEndT s o t [] mc ms
def PcT (D : va_G) (cl : List vw_C) (tys : List (ClassId × FieldType)) (av : List Value) (ws : va_W) (sz : Nat) (Z : State → Prop) : Array Value → State → Prop := fun v U => PrN D cl tys av ws sz v U ∧ Z U
/-- a contract of a method that throws -/
def Ctt (l : Launch) (y : MethodName) (wl : List Cond) (rm : Room) (Pc : Array Value → State → Prop) (X : String) (mc ms : Nat) : Prop :=
  Jvm.Free.MetFree l y (headSpec wl rm) Pc (fun _ _ _ _ _ => True) (fun a st o t => QT X a st o t ∧ Jvm.Free.FrameEndT st o t [] mc ms)
section QX
variable {p : Program} {l : Launch} {e : Env} {R : Room} {s : State} {m : MethodId} {args : Array Value} {below : List Frame} {meth : Method} {c : Code} {H : Heap} {locs : List Loc} {cells slots : Nat} {Q : State → Prop}
variable {cc : ByteArray} {pc nL : Nat} {ls : Array Slot} {rest st0 : List Value} {Ts : List Cond} {own : String}
theorem q_thr {X tx : String} {ic ix inew : Nat} (S0 : CallFix p m c cc nL s args Ts "CheriCore") (hex : c.exceptionTable.isEmpty = true) (hlk : meth.locks = false) (htr : ∀ e, l.admits e → e.platform.stackTraces = false) (hT : TW ic X ix tx s) (hX : Bundle.fit X = true) (hcl : Cond.classLink "CheriCore" inew X ∈ Ts) (hinst : Cond.instantiable X 6 ∈ Ts) (hini : Cond.initialized X ∈ Ts) (hsize : ls.size = nL) (hRc : 1 ≤ R.cells) (hRs : 6 ≤ R.slots) (hRf : 5 < R.frames) (hRl : 89 ≤ R.locals)
    (d0 : decode cc pc = .ok (.new inew, 3)) (d3 : decode cc (pc + 3) = .ok (.dup, 1)) (d4 : decode cc (pc + 3 + 1) = .ok (.ldc ix, 2)) (d6 : decode cc (pc + 3 + 1 + 2) = .ok (.invokespecial ic, 3)) (d9 : decode cc (pc + 3 + 1 + 2 + 3) = .ok (.athrow, 1)) :
    W p l e R s m args below meth c s.heap [] 0 0 (MQT below X args s 1 6) (F0 m pc ls []) := by
  obtain ⟨hx, hb, hml, hown, hts⟩ := id S0
  obtain ⟨hA, q, hq⟩ := hT
  refine W.newc (g := F0 m pc ls []) (n := 6) hx hb hown (hts _ hcl) (hts _ hinst) (hts _ hini) rfl d0 (by omega) (by omega) (fun cC kC f1 f2 f3 f4 => ?_)
  refine W.eq (g2 := F0 m (pc + 3) ls [.ref s.heap.size]) rfl ?_
  refine lv_dup hx hb d3 rfl ?_
  refine va_ldcS hx hb hown hq d4 ?_
  intro T hT X9
  have hout : ∀ x ∈ c.exceptionTable.toList, covers x (pc + 3 + 1 + 2 + 3) = false := by
    intro x hx9
    rw [Array.isEmpty_iff] at hex
    rw [hex] at hx9
    cases hx9
  have h8 : 2 * (F0 m (pc + 3 + 1 + 2) ls [.ref q, .ref s.heap.size, .ref s.heap.size]).monitorRoom + (([.ref s.heap.size] : List Value).map fun v => v.category).sum ≤ 8 := lv_room (pc := pc + 3 + 1 + 2) (ls := ls) (rest := [.ref q, .ref s.heap.size, .ref s.heap.size]) (Nat.le_of_ble_eq_true rfl)
  obtain ⟨U, st, run, ended, hW, same, ce, hce, ow⟩ := X9.ctorThrowS hx (htr e X9.admits) hown hX (by decide) (hA _) (fun x hx9 => by cases hx9) (a := s.heap.size) f1 f2 (by rw [hT]; exact Array.getElem?_push_size) (Nat.le_refl _) (msg := .ref q) rfl
    (g := F0 m (pc + 3 + 1 + 2) ls [.ref q, .ref s.heap.size, .ref s.heap.size]) rfl (by rw [hml]; exact hsize) rfl rfl rfl (by rw [hb]; exact d6) (by rw [hb]; exact d9) hout hRf (by rw [show exN.length = 2 from rfl]; omega) hlk
  refine ⟨U, st, .threw s.heap.size, run, ended, ⟨s.heap.size, ce, rfl, Nat.le_refl _, hce, ow.vm, ?_, fun q9 h9 => ?_⟩, ⟨_, rfl⟩, hW, same⟩
  · exact ow.cls
  · obtain ⟨cell, hc⟩ : ∃ cell, s.heap[q9]? = some cell := ⟨_, Array.getElem?_eq_getElem h9⟩
    rw [hc]
    exact same.old_cell hc
theorem Ctt.ofF {D : va_G} {cl : List vw_C} {tys : List (ClassId × FieldType)} {av : List Value} {ws : va_W} {sz : Nat} {Z : State → Prop} {y : MethodName} {X : String} {mc ms maxL : Nat} {ret : Option FieldType} {rm : Room} (hy : plainName y.cls = true) (hlen : (lg_sl av).length ≤ maxL)
    (body : ∀ (p : Program) (e : Env) (s : State) (m : MethodId) (below : List Frame) (meth : Method) (c : Code) (ls : Array Slot), CallFix p m c cc maxL s av.toArray TB y.cls → c.exceptionTable.isEmpty = true → meth.locks = false → lv_has ls maxL (lv_args 0 av) → Z s → Lv D cl tys (va_A ws s.heap.size) s.heap ws s s.heap [] →
      W p l e rm s m av.toArray below meth c s.heap [] 0 0 (MQT below X av.toArray s mc ms) (F0 m 0 ls [])) : Ctt l y (wl y cc maxL ret) rm (PcT D cl tys av ws sz Z) X mc ms := by
  refine Jvm.Free.MetFree.of_bodyS (code := cc) (maxLocals := maxL) (ret := ret) hy ?_ ?_
  · intro args s m h hn
    obtain ⟨meth, c, h1, h2, h3, h4, h5, h6, -, -⟩ := Cond.code_spec hn (atoms_spec (ws := wl y cc maxL ret) h _ List.mem_cons_self)
    exact ⟨meth, c, h1, h2, h3, h4, h5, h6⟩
  · intro p e s m args below meth c s₁ B hml hP _
    obtain ⟨⟨rfl, hsz, hPw, hK, hD, hN⟩, hZ⟩ := hP
    have hh0 : s₁.heap = s.heap := by rw [B.state]; rfl
    have hts0 := atoms_spec (ws := wl y cc maxL ret) B.pre
    obtain ⟨meth2, c2, h1, h2, -, -, -, -, h7, -⟩ := Cond.code_spec B.named (hts0 _ List.mem_cons_self)
    have X0 := Stand.of_body B
    have e1 : meth2 = meth := Option.some.inj (h1.symm.trans B.method)
    subst e1
    have e2 : c2 = c := Option.some.inj (h2.symm.trans X0.code)
    subst e2
    have hl := lv_entry av (n := maxL) hlen
    have r := body p e s m below meth2 c2 _ ⟨B.exec, B.bytes, hml, findClass_of_methodNamed B.named, fun w hw => hts0 w (List.mem_cons_of_mem _ hw)⟩ h7 B.notSynchronized hl hZ ⟨hPw, hK, hD.self, va_S.rf⟩
    rw [← lg_entry_eq] at r
    obtain ⟨t, a1, o, b1, b2, b3, b4⟩ := r s₁ hh0 X0
    exact ⟨t, o, a1, b1, b2, b3, b4⟩
end QX
theorem le32 {r : Int32} (h : 31 < r) : 32 ≤ r := by
  rw [Int32.le_iff_toInt_le]
  rw [Int32.lt_iff_toInt_lt] at h
  have e1 : (31 : Int32).toInt = 31 := rfl
  have e2 : (32 : Int32).toInt = 32 := rfl
  omega
set_option maxHeartbeats 4000000 in
set_option maxRecDepth 100000 in
theorem t_Cor_word (l : Launch) (htr : ∀ e, l.admits e → e.platform.stackTraces = false) (D : va_G) (ti : Nat → ClassId) (sz : Nat) (ad : Nat → Nat) (u : MT) (pi ex de : Nat) (xi xb di db fi fb : Int32) (ob reg : Nat → Nat) (kq : Int32 × Bool × Bool × Int32 × Int64) (ca va fv : Int32) (R : Nat → Cap) (co : Nat) (kp : Int32 × Bool × Bool × Int32 × Int64) (rc st tr : Int32) (ha : Bool) (i : Int32) (hbd : isW i = false) (x : Int32) : Ctt l y_Cor_word (wl y_Cor_word b_Cor_word 4 (some .int)) (rmC 6 1 6) (PcT D clz (ty4 ti) [.ref co, .int i, .int x] ((CW ad ti u pi ex de xi xb di db fi fb ob reg kq ca va fv R) ++ (KT ti co ob reg kp rc st tr ha)) sz (TW 58 "java/lang/IndexOutOfBoundsException" 56 "no such word")) "java/lang/IndexOutOfBoundsException" 1 6 := by
  refine Ctt.ofF (by decide) (Nat.le_of_ble_eq_true rfl) ?_
  intro p9 e9 s9 m9 b9 me9 c9 ls S hex hlk hl hZ hw
  obtain ⟨hx, hb, hml, hown, hts⟩ := id S
  have hl : lv_has ls 4 [(0, .ref co), (1, .int i), (2, .int x)] := hl
  refine lv_iload_n hx hb d_Cor_word_0 rfl (lv_at hl 1 rfl) ?_
  refine q_cr (q_runS (As := [.int i]) (rest := []) S ((c_Cor_isWord l D (ty4 ti) i).nil _) (cw_s hts tb_2_194 k_Cor_isWord rfl rfl ⟨by decide, by decide⟩) hw rfl hl.1 rfl (Nat.le_of_ble_eq_true rfl) d_Cor_word_1 ⟨Nat.zero_le _, Nat.zero_le _⟩) ?_
  refine W.eq (g2 := F0 m9 4 ls [.int (jb (isW i))]) rfl ?_
  refine q_ifz_ne S d_Cor_word_4 rfl (fun h4 => ?_) (fun h4 => ?_)
  · exact absurd h4 (fne hbd)
  · exact q_thr S hex hlk htr hZ (by decide) tb_2_197 tb_2_198 tb_1_16 hl.1 (Nat.le_of_ble_eq_true rfl) (Nat.le_of_ble_eq_true rfl) (Nat.le_of_ble_eq_true rfl) (Nat.le_of_ble_eq_true rfl) d_Cor_word_7 d_Cor_word_10 d_Cor_word_11 d_Cor_word_13 d_Cor_word_16
set_option maxHeartbeats 4000000 in
set_option maxRecDepth 100000 in
theorem t_Cor_memory (l : Launch) (htr : ∀ e, l.admits e → e.platform.stackTraces = false) (D : va_G) (ti : Nat → ClassId) (sz : Nat) (ad : Nat → Nat) (u : MT) (pi ex de : Nat) (xi xb di db fi fb : Int32) (ob reg : Nat → Nat) (kq : Int32 × Bool × Bool × Int32 × Int64) (ca va fv : Int32) (R : Nat → Cap) (co : Nat) (kp : Int32 × Bool × Bool × Int32 × Int64) (rc st tr : Int32) (ha : Bool) (i : Int32) (hbd : isW i = false) : Ctt l y_Cor_memory (wl y_Cor_memory b_Cor_memory 2 (some .int)) (rmC 6 1 6) (PcT D clz (ty4 ti) [.ref co, .int i] ((CW ad ti u pi ex de xi xb di db fi fb ob reg kq ca va fv R) ++ (KT ti co ob reg kp rc st tr ha)) sz (TW 58 "java/lang/IndexOutOfBoundsException" 56 "no such word")) "java/lang/IndexOutOfBoundsException" 1 6 := by
  refine Ctt.ofF (by decide) (Nat.le_of_ble_eq_true rfl) ?_
  intro p9 e9 s9 m9 b9 me9 c9 ls S hex hlk hl hZ hw
  obtain ⟨hx, hb, hml, hown, hts⟩ := id S
  have hl : lv_has ls 2 [(0, .ref co), (1, .int i)] := hl
  refine lv_iload_n hx hb d_Cor_memory_0 rfl (lv_at hl 1 rfl) ?_
  refine q_cr (q_runS (As := [.int i]) (rest := []) S ((c_Cor_isWord l D (ty4 ti) i).nil _) (cw_s hts tb_2_194 k_Cor_isWord rfl rfl ⟨by decide, by decide⟩) hw rfl hl.1 rfl (Nat.le_of_ble_eq_true rfl) d_Cor_memory_1 ⟨Nat.zero_le _, Nat.zero_le _⟩) ?_
  refine W.eq (g2 := F0 m9 4 ls [.int (jb (isW i))]) rfl ?_
  refine q_ifz_ne S d_Cor_memory_4 rfl (fun h4 => ?_) (fun h4 => ?_)
  · exact absurd h4 (fne hbd)
  · exact q_thr S hex hlk htr hZ (by decide) tb_2_197 tb_2_198 tb_1_16 hl.1 (Nat.le_of_ble_eq_true rfl) (Nat.le_of_ble_eq_true rfl) (Nat.le_of_ble_eq_true rfl) (Nat.le_of_ble_eq_true rfl) d_Cor_memory_7 d_Cor_memory_10 d_Cor_memory_11 d_Cor_memory_13 d_Cor_memory_16
set_option maxHeartbeats 4000000 in
set_option maxRecDepth 100000 in
theorem t_Cor_tag (l : Launch) (htr : ∀ e, l.admits e → e.platform.stackTraces = false) (D : va_G) (ti : Nat → ClassId) (sz : Nat) (ad : Nat → Nat) (u : MT) (pi ex de : Nat) (xi xb di db fi fb : Int32) (ob reg : Nat → Nat) (kq : Int32 × Bool × Bool × Int32 × Int64) (ca va fv : Int32) (R : Nat → Cap) (co : Nat) (kp : Int32 × Bool × Bool × Int32 × Int64) (rc st tr : Int32) (ha : Bool) (i : Int32) (hbd : isW i = false) : Ctt l y_Cor_tag (wl y_Cor_tag b_Cor_tag 2 (some .boolean)) (rmC 6 1 6) (PcT D clz (ty4 ti) [.ref co, .int i] ((CW ad ti u pi ex de xi xb di db fi fb ob reg kq ca va fv R) ++ (KT ti co ob reg kp rc st tr ha)) sz (TW 58 "java/lang/IndexOutOfBoundsException" 56 "no such word")) "java/lang/IndexOutOfBoundsException" 1 6 := by
  refine Ctt.ofF (by decide) (Nat.le_of_ble_eq_true rfl) ?_
  intro p9 e9 s9 m9 b9 me9 c9 ls S hex hlk hl hZ hw
  obtain ⟨hx, hb, hml, hown, hts⟩ := id S
  have hl : lv_has ls 2 [(0, .ref co), (1, .int i)] := hl
  refine lv_iload_n hx hb d_Cor_tag_0 rfl (lv_at hl 1 rfl) ?_
  refine q_cr (q_runS (As := [.int i]) (rest := []) S ((c_Cor_isWord l D (ty4 ti) i).nil _) (cw_s hts tb_2_194 k_Cor_isWord rfl rfl ⟨by decide, by decide⟩) hw rfl hl.1 rfl (Nat.le_of_ble_eq_true rfl) d_Cor_tag_1 ⟨Nat.zero_le _, Nat.zero_le _⟩) ?_
  refine W.eq (g2 := F0 m9 4 ls [.int (jb (isW i))]) rfl ?_
  refine q_ifz_ne S d_Cor_tag_4 rfl (fun h4 => ?_) (fun h4 => ?_)
  · exact absurd h4 (fne hbd)
  · exact q_thr S hex hlk htr hZ (by decide) tb_2_197 tb_2_198 tb_1_16 hl.1 (Nat.le_of_ble_eq_true rfl) (Nat.le_of_ble_eq_true rfl) (Nat.le_of_ble_eq_true rfl) (Nat.le_of_ble_eq_true rfl) d_Cor_tag_7 d_Cor_tag_10 d_Cor_tag_11 d_Cor_tag_13 d_Cor_tag_16
set_option maxHeartbeats 4000000 in
set_option maxRecDepth 100000 in
theorem t_Cor_put (l : Launch) (htr : ∀ e, l.admits e → e.platform.stackTraces = false) (D : va_G) (ti : Nat → ClassId) (sz : Nat) (ad : Nat → Nat) (u : MT) (pi ex de : Nat) (xi xb di db fi fb : Int32) (ob reg : Nat → Nat) (kq : Int32 × Bool × Bool × Int32 × Int64) (ca va fv : Int32) (R : Nat → Cap) (co : Nat) (kp : Int32 × Bool × Bool × Int32 × Int64) (rc st tr : Int32) (ha : Bool) (r : Int32) (hbd : r < 1 ∨ 31 < r) (a me : Int32) : Ctt l y_Cor_put (wl y_Cor_put b_Cor_put 4 none) (rmC 6 1 6) (PcT D clz (ty4 ti) [.ref co, .int r, .int a, .int me] ((CW ad ti u pi ex de xi xb di db fi fb ob reg kq ca va fv R) ++ (KT ti co ob reg kp rc st tr ha)) sz (TW 58 "java/lang/IndexOutOfBoundsException" 85 "no such register")) "java/lang/IndexOutOfBoundsException" 1 6 := by
  refine Ctt.ofF (by decide) (Nat.le_of_ble_eq_true rfl) ?_
  intro p9 e9 s9 m9 b9 me9 c9 ls S hex hlk hl hZ hw
  obtain ⟨hx, hb, hml, hown, hts⟩ := id S
  have hl : lv_has ls 4 [(0, .ref co), (1, .int r), (2, .int a), (3, .int me)] := hl
  refine lv_iload_n hx hb d_Cor_put_0 rfl (lv_at hl 1 rfl) ?_
  refine lv_iconst (v := 1) hx hb d_Cor_put_1 (by decide) ?_
  refine lv_icmp_lt hx hb d_Cor_put_2 rfl (fun h2 => ?_) (fun h2 => ?_)
  · exact q_thr S hex hlk htr hZ (by decide) tb_2_197 tb_2_198 tb_1_16 hl.1 (Nat.le_of_ble_eq_true rfl) (Nat.le_of_ble_eq_true rfl) (Nat.le_of_ble_eq_true rfl) (Nat.le_of_ble_eq_true rfl) d_Cor_put_11 d_Cor_put_14 d_Cor_put_15 d_Cor_put_17 d_Cor_put_20
  · refine lv_iload_n hx hb d_Cor_put_5 rfl (lv_at hl 1 rfl) ?_
    refine lv_bipush (v := 32) hx hb d_Cor_put_6 (by decide) ?_
    refine lv_icmp_lt hx hb d_Cor_put_8 rfl (fun h8 => ?_) (fun h8 => ?_)
    · exact (hbd.elim h2 (fun q => absurd h8 (Int32.not_lt.mpr (le32 q)))).elim
    · exact q_thr S hex hlk htr hZ (by decide) tb_2_197 tb_2_198 tb_1_16 hl.1 (Nat.le_of_ble_eq_true rfl) (Nat.le_of_ble_eq_true rfl) (Nat.le_of_ble_eq_true rfl) (Nat.le_of_ble_eq_true rfl) d_Cor_put_11 d_Cor_put_14 d_Cor_put_15 d_Cor_put_17 d_Cor_put_20
set_option maxHeartbeats 4000000 in
set_option maxRecDepth 100000 in
theorem t_Cor_rootX (l : Launch) (htr : ∀ e, l.admits e → e.platform.stackTraces = false) (D : va_G) (ti : Nat → ClassId) (sz : Nat) (ad : Nat → Nat) (u : MT) (pi ex de : Nat) (xi xb di db fi fb : Int32) (ob reg : Nat → Nat) (kq : Int32 × Bool × Bool × Int32 × Int64) (ca va fv : Int32) (R : Nat → Cap) (co : Nat) (kp : Int32 × Bool × Bool × Int32 × Int64) (rc st tr : Int32) (ha : Bool) (r : Int32) (hbd : r < 1 ∨ 37 ≤ r) (b n p : Int32) : Ctt l y_Cor_root (wl y_Cor_root b_Cor_root 8 (some .int)) (rmC 6 1 6) (PcT D clz (ty4 ti) [.ref co, .int r, .int b, .int n, .int p] ((CW ad ti u pi ex de xi xb di db fi fb ob reg kq ca va fv R) ++ (KT ti co ob reg kp rc st tr ha)) sz (TW 58 "java/lang/IndexOutOfBoundsException" 85 "no such register")) "java/lang/IndexOutOfBoundsException" 1 6 := by
  refine Ctt.ofF (by decide) (Nat.le_of_ble_eq_true rfl) ?_
  intro p9 e9 s9 m9 b9 me9 c9 ls S hex hlk hl hZ hw
  obtain ⟨hx, hb, hml, hown, hts⟩ := id S
  have hl : lv_has ls 8 [(0, .ref co), (1, .int r), (2, .int b), (3, .int n), (4, .int p)] := hl
  refine lv_iload_n hx hb d_Cor_root_0 rfl (lv_at hl 1 rfl) ?_
  refine lv_iconst (v := 1) hx hb d_Cor_root_1 (by decide) ?_
  refine lv_icmp_lt hx hb d_Cor_root_2 rfl (fun h2 => ?_) (fun h2 => ?_)
  · exact q_thr S hex hlk htr hZ (by decide) tb_2_197 tb_2_198 tb_1_16 hl.1 (Nat.le_of_ble_eq_true rfl) (Nat.le_of_ble_eq_true rfl) (Nat.le_of_ble_eq_true rfl) (Nat.le_of_ble_eq_true rfl) d_Cor_root_11 d_Cor_root_14 d_Cor_root_15 d_Cor_root_17 d_Cor_root_20
  · refine lv_iload_n hx hb d_Cor_root_5 rfl (lv_at hl 1 rfl) ?_
    refine lv_bipush (v := 37) hx hb d_Cor_root_6 (by decide) ?_
    refine lv_icmp_lt hx hb d_Cor_root_8 rfl (fun h8 => ?_) (fun h8 => ?_)
    · exact (hbd.elim h2 (Int32.not_le.mpr h8)).elim
    · exact q_thr S hex hlk htr hZ (by decide) tb_2_197 tb_2_198 tb_1_16 hl.1 (Nat.le_of_ble_eq_true rfl) (Nat.le_of_ble_eq_true rfl) (Nat.le_of_ble_eq_true rfl) (Nat.le_of_ble_eq_true rfl) d_Cor_root_11 d_Cor_root_14 d_Cor_root_15 d_Cor_root_17 d_Cor_root_20
set_option maxHeartbeats 4000000 in
set_option maxRecDepth 100000 in
theorem t_Cor_rootY (l : Launch) (htr : ∀ e, l.admits e → e.platform.stackTraces = false) (D : va_G) (ti : Nat → ClassId) (sz : Nat) (ad : Nat → Nat) (u : MT) (pi ex de : Nat) (xi xb di db fi fb : Int32) (ob reg : Nat → Nat) (kq : Int32 × Bool × Bool × Int32 × Int64) (ca va fv : Int32) (R : Nat → Cap) (co : Nat) (kp : Int32 × Bool × Bool × Int32 × Int64) (rc st tr : Int32) (ha : Bool) (r : Nat) (h1 : 1 ≤ r) (h36 : r < 37) (b n p : Int32) (hbd : fitS b n.toInt64 = false ∨ p < 0 ∨ 4095 < p) : Ctt l y_Cor_root (wl y_Cor_root b_Cor_root 8 (some .int)) (rmC 6 1 6) (PcT D clz (ty4 ti) [.ref co, .int (nI r), .int b, .int n, .int p] ((CW ad ti u pi ex de xi xb di db fi fb ob reg kq ca va fv R) ++ (KT ti co ob reg kp rc st tr ha)) sz (TW 95 "java/lang/IllegalArgumentException" 93 "no such root")) "java/lang/IllegalArgumentException" 1 6 := by
  refine Ctt.ofF (by decide) (Nat.le_of_ble_eq_true rfl) ?_
  intro p9 e9 s9 m9 b9 me9 c9 ls S hex hlk hl hZ hw
  obtain ⟨hx, hb, hml, hown, hts⟩ := id S
  have hl : lv_has ls 8 [(0, .ref co), (1, .int (nI r)), (2, .int b), (3, .int n), (4, .int p)] := hl
  refine lv_iload_n hx hb d_Cor_root_0 rfl (lv_at hl 1 rfl) ?_
  refine lv_iconst (v := 1) hx hb d_Cor_root_1 (by decide) ?_
  refine lv_icmp_lt hx hb d_Cor_root_2 rfl (fun h => absurd h (nI_nlt (a := r) (b := 1) h1 (by omega))) (fun _ => ?_)
  refine lv_iload_n hx hb d_Cor_root_5 rfl (lv_at hl 1 rfl) ?_
  refine lv_bipush (v := 37) hx hb d_Cor_root_6 (by decide) ?_
  refine lv_icmp_lt hx hb d_Cor_root_8 rfl (fun _ => ?_) (fun h => absurd h (not_not_intro (nI_lt (a := r) (b := 37) h36 (by decide))))
  refine lv_iload_n hx hb d_Cor_root_21 rfl (lv_at hl 2 rfl) ?_
  refine lv_iload_n hx hb d_Cor_root_22 rfl (lv_at hl 3 rfl) ?_
  refine lv_i2l (v := (n.toInt64)) hx hb d_Cor_root_23 rfl ?_
  refine q_cr (q_runS (As := [.int b, .long (n.toInt64)]) (rest := []) S ((c_Cor_fitsSpace l D (ty4 ti) b (n.toInt64)).nil _) (cw_s hts tb_3_74 k_Cor_fitsSpace rfl rfl ⟨by decide, by decide⟩) hw rfl hl.1 rfl (Nat.le_of_ble_eq_true rfl) d_Cor_root_24 ⟨Nat.zero_le _, Nat.zero_le _⟩) ?_
  refine W.eq (g2 := F0 m9 27 ls [.int (jb (fitS b (n.toInt64)))]) rfl ?_
  refine q_ifz_eq S d_Cor_root_27 rfl (fun h27 => ?_) (fun h27 => ?_)
  · exact q_thr S hex hlk htr hZ (by decide) tb_3_79 tb_3_80 tb_1_18 hl.1 (Nat.le_of_ble_eq_true rfl) (Nat.le_of_ble_eq_true rfl) (Nat.le_of_ble_eq_true rfl) (Nat.le_of_ble_eq_true rfl) d_Cor_root_43 d_Cor_root_46 d_Cor_root_47 d_Cor_root_49 d_Cor_root_52
  · refine lv_iload hx hb d_Cor_root_30 (lv_at hl 4 rfl) ?_
    refine lv_if_lt hx hb d_Cor_root_32 rfl (fun h32 => ?_) (fun h32 => ?_)
    · exact q_thr S hex hlk htr hZ (by decide) tb_3_79 tb_3_80 tb_1_18 hl.1 (Nat.le_of_ble_eq_true rfl) (Nat.le_of_ble_eq_true rfl) (Nat.le_of_ble_eq_true rfl) (Nat.le_of_ble_eq_true rfl) d_Cor_root_43 d_Cor_root_46 d_Cor_root_47 d_Cor_root_49 d_Cor_root_52
    · refine lv_iload hx hb d_Cor_root_35 (lv_at hl 4 rfl) ?_
      refine lv_sipush (v := 4095) hx hb d_Cor_root_37 (by decide) ?_
      refine lv_icmp_le hx hb d_Cor_root_40 rfl (fun h40 => ?_) (fun h40 => ?_)
      · rcases hbd with q | q | q
        · exact absurd h27 (fne q)
        · exact absurd q h32
        · exact absurd q (Int32.not_lt.mpr h40)
      · exact q_thr S hex hlk htr hZ (by decide) tb_3_79 tb_3_80 tb_1_18 hl.1 (Nat.le_of_ble_eq_true rfl) (Nat.le_of_ble_eq_true rfl) (Nat.le_of_ble_eq_true rfl) (Nat.le_of_ble_eq_true rfl) d_Cor_root_43 d_Cor_root_46 d_Cor_root_47 d_Cor_root_49 d_Cor_root_52
set_option maxHeartbeats 4000000 in
set_option maxRecDepth 100000 in
theorem t_Cor_rootZ (l : Launch) (htr : ∀ e, l.admits e → e.platform.stackTraces = false) (D : va_G) (ti : Nat → ClassId) (sz : Nat) (ad : Nat → Nat) (u : MT) (pi ex de : Nat) (xi xb di db fi fb : Int32) (ob reg : Nat → Nat) (kq : Int32 × Bool × Bool × Int32 × Int64) (ca va fv : Int32) (R : Nat → Cap) (co : Nat) (kp : Int32 × Bool × Bool × Int32 × Int64) (st tr : Int32) (ha : Bool) (r : Nat) (h1 : 1 ≤ r) (h36 : r < 37) (b n p : Int32) (hf : fitS b n.toInt64 = true) (hp0 : ¬ p < 0) (hp1 : p ≤ 4095) : Ctt l y_Cor_root (wl y_Cor_root b_Cor_root 8 (some .int)) (rmC 6 1 6) (PcT D clz (ty4 ti) [.ref co, .int (nI r), .int b, .int n, .int p] ((CW ad ti u pi ex de xi xb di db fi fb ob reg kq ca va fv R) ++ (KT ti co ob reg kp (nI 8) st tr ha)) sz (TW 104 "java/lang/IllegalStateException" 102 "there are eight roots")) "java/lang/IllegalStateException" 1 6 := by
  refine Ctt.ofF (by decide) (Nat.le_of_ble_eq_true rfl) ?_
  intro p9 e9 s9 m9 b9 me9 c9 ls S hex hlk hl hZ hw
  obtain ⟨hx, hb, hml, hown, hts⟩ := id S
  have hl : lv_has ls 8 [(0, .ref co), (1, .int (nI r)), (2, .int b), (3, .int n), (4, .int p)] := hl
  refine lv_iload_n hx hb d_Cor_root_0 rfl (lv_at hl 1 rfl) ?_
  refine lv_iconst (v := 1) hx hb d_Cor_root_1 (by decide) ?_
  refine lv_icmp_lt hx hb d_Cor_root_2 rfl (fun h => absurd h (nI_nlt (a := r) (b := 1) h1 (by omega))) (fun _ => ?_)
  refine lv_iload_n hx hb d_Cor_root_5 rfl (lv_at hl 1 rfl) ?_
  refine lv_bipush (v := 37) hx hb d_Cor_root_6 (by decide) ?_
  refine lv_icmp_lt hx hb d_Cor_root_8 rfl (fun _ => ?_) (fun h => absurd h (not_not_intro (nI_lt (a := r) (b := 37) h36 (by decide))))
  refine lv_iload_n hx hb d_Cor_root_21 rfl (lv_at hl 2 rfl) ?_
  refine lv_iload_n hx hb d_Cor_root_22 rfl (lv_at hl 3 rfl) ?_
  refine lv_i2l (v := (n.toInt64)) hx hb d_Cor_root_23 rfl ?_
  refine q_cr (q_runS (As := [.int b, .long (n.toInt64)]) (rest := []) S ((c_Cor_fitsSpace l D (ty4 ti) b (n.toInt64)).nil _) (cw_s hts tb_3_74 k_Cor_fitsSpace rfl rfl ⟨by decide, by decide⟩) hw rfl hl.1 rfl (Nat.le_of_ble_eq_true rfl) d_Cor_root_24 ⟨Nat.zero_le _, Nat.zero_le _⟩) ?_
  refine W.eq (g2 := F0 m9 27 ls [.int (jb (fitS b (n.toInt64)))]) rfl ?_
  refine q_ifz_eq S d_Cor_root_27 rfl (fun h27 => ?_) (fun h27 => ?_)
  · exact absurd hf (fne h27)
  · refine lv_iload hx hb d_Cor_root_30 (lv_at hl 4 rfl) ?_
    refine lv_if_lt hx hb d_Cor_root_32 rfl (fun h => absurd h (hp0)) (fun _ => ?_)
    refine lv_iload hx hb d_Cor_root_35 (lv_at hl 4 rfl) ?_
    refine lv_sipush (v := 4095) hx hb d_Cor_root_37 (by decide) ?_
    refine lv_icmp_le hx hb d_Cor_root_40 rfl (fun _ => ?_) (fun h => absurd h (not_not_intro hp1))
    refine lv_aload_n hx hb d_Cor_root_53 rfl (lv_at hl 0 rfl) ?_
    refine q_get S hw ly_Cor 69 rfl rfl 6 (by decide) tb_2_73 rfl rfl d_Cor_root_54 ?_
    refine lv_bipush (v := 8) hx hb d_Cor_root_57 (by decide) ?_
    refine lv_icmp_lt hx hb d_Cor_root_59 rfl (fun h59 => ?_) (fun h59 => ?_)
    · exact absurd h59 (by decide)
    · exact q_thr S hex hlk htr hZ (by decide) tb_3_95 tb_3_96 tb_1_19 hl.1 (Nat.le_of_ble_eq_true rfl) (Nat.le_of_ble_eq_true rfl) (Nat.le_of_ble_eq_true rfl) (Nat.le_of_ble_eq_true rfl) d_Cor_root_62 d_Cor_root_65 d_Cor_root_66 d_Cor_root_68 d_Cor_root_71
set_option maxHeartbeats 4000000 in
set_option maxRecDepth 100000 in
theorem t_Cor_runX (l : Launch) (htr : ∀ e, l.admits e → e.platform.stackTraces = false) (D : va_G) (ti : Nat → ClassId) (sz : Nat) (ad : Nat → Nat) (u : MT) (pi ex de : Nat) (xi xb di db fi fb : Int32) (ob reg : Nat → Nat) (kq : Int32 × Bool × Bool × Int32 × Int64) (ca va fv : Int32) (R : Nat → Cap) (co : Nat) (kp : Int32 × Bool × Bool × Int32 × Int64) (rc st tr : Int32) (ha : Bool) (n : Int32) (hbd : n < 1 ∨ 10000 < n) : Ctt l y_Cor_run (wl y_Cor_run b_Cor_run 3 (some .int)) (rmC 6 1 6) (PcT D clz (ty4 ti) [.ref co, .int n] ((CW ad ti u pi ex de xi xb di db fi fb ob reg kq ca va fv R) ++ (KT ti co ob reg kp rc st tr ha)) sz (TW 95 "java/lang/IllegalArgumentException" 131 "no such number of steps")) "java/lang/IllegalArgumentException" 1 6 := by
  refine Ctt.ofF (by decide) (Nat.le_of_ble_eq_true rfl) ?_
  intro p9 e9 s9 m9 b9 me9 c9 ls S hex hlk hl hZ hw
  obtain ⟨hx, hb, hml, hown, hts⟩ := id S
  have hl : lv_has ls 3 [(0, .ref co), (1, .int n)] := hl
  refine lv_iload_n hx hb d_Cor_run_0 rfl (lv_at hl 1 rfl) ?_
  refine lv_iconst (v := 1) hx hb d_Cor_run_1 (by decide) ?_
  refine lv_icmp_lt hx hb d_Cor_run_2 rfl (fun h2 => ?_) (fun h2 => ?_)
  · exact q_thr S hex hlk htr hZ (by decide) tb_3_79 tb_3_80 tb_1_18 hl.1 (Nat.le_of_ble_eq_true rfl) (Nat.le_of_ble_eq_true rfl) (Nat.le_of_ble_eq_true rfl) (Nat.le_of_ble_eq_true rfl) d_Cor_run_12 d_Cor_run_15 d_Cor_run_16 d_Cor_run_18 d_Cor_run_21
  · refine lv_iload_n hx hb d_Cor_run_5 rfl (lv_at hl 1 rfl) ?_
    refine lv_sipush (v := 10000) hx hb d_Cor_run_6 (by decide) ?_
    refine lv_icmp_le hx hb d_Cor_run_9 rfl (fun h9 => ?_) (fun h9 => ?_)
    · exact (hbd.elim h2 (Int32.not_lt.mpr h9)).elim
    · exact q_thr S hex hlk htr hZ (by decide) tb_3_79 tb_3_80 tb_1_18 hl.1 (Nat.le_of_ble_eq_true rfl) (Nat.le_of_ble_eq_true rfl) (Nat.le_of_ble_eq_true rfl) (Nat.le_of_ble_eq_true rfl) d_Cor_run_12 d_Cor_run_15 d_Cor_run_16 d_Cor_run_18 d_Cor_run_21
set_option maxHeartbeats 4000000 in
set_option maxRecDepth 100000 in
theorem t_Cor_runY (l : Launch) (htr : ∀ e, l.admits e → e.platform.stackTraces = false) (D : va_G) (ti : Nat → ClassId) (sz : Nat) (ad : Nat → Nat) (u : MT) (pi ex de : Nat) (xi xb di db fi fb : Int32) (ob reg : Nat → Nat) (kq : Int32 × Bool × Bool × Int32 × Int64) (ca va fv : Int32) (R : Nat → Cap) (co : Nat) (kp : Int32 × Bool × Bool × Int32 × Int64) (rc st tr : Int32) (n : Nat) (h1 : 1 ≤ n) (h2 : n ≤ 10000) : Ctt l y_Cor_run (wl y_Cor_run b_Cor_run 3 (some .int)) (rmC 6 1 6) (PcT D clz (ty4 ti) [.ref co, .int (nI n)] ((CW ad ti u pi ex de xi xb di db fi fb ob reg kq ca va fv R) ++ (KT ti co ob reg kp rc st tr true)) sz (TW 104 "java/lang/IllegalStateException" 137 "the machine is halted")) "java/lang/IllegalStateException" 1 6 := by
  refine Ctt.ofF (by decide) (Nat.le_of_ble_eq_true rfl) ?_
  intro p9 e9 s9 m9 b9 me9 c9 ls S hex hlk hl hZ hw
  obtain ⟨hx, hb, hml, hown, hts⟩ := id S
  have hl : lv_has ls 3 [(0, .ref co), (1, .int (nI n))] := hl
  refine lv_iload_n hx hb d_Cor_run_0 rfl (lv_at hl 1 rfl) ?_
  refine lv_iconst (v := 1) hx hb d_Cor_run_1 (by decide) ?_
  refine lv_icmp_lt hx hb d_Cor_run_2 rfl (fun h => absurd h (nI_nlt (a := n) (b := 1) h1 (by omega))) (fun _ => ?_)
  refine lv_iload_n hx hb d_Cor_run_5 rfl (lv_at hl 1 rfl) ?_
  refine lv_sipush (v := 10000) hx hb d_Cor_run_6 (by decide) ?_
  refine lv_icmp_le hx hb d_Cor_run_9 rfl (fun _ => ?_) (fun h => absurd h (not_not_intro (nI_le (a := n) (b := 10000) h2 (by decide))))
  refine lv_aload_n hx hb d_Cor_run_22 rfl (lv_at hl 0 rfl) ?_
  refine q_get S hw ly_Cor 69 rfl rfl 9 (by decide) tb_2_76 rfl rfl d_Cor_run_23 ?_
  refine lv_if_eq hx hb d_Cor_run_26 rfl (fun h => absurd h (by decide)) (fun _ => ?_)
  exact q_thr S hex hlk htr hZ (by decide) tb_3_95 tb_3_96 tb_1_19 hl.1 (Nat.le_of_ble_eq_true rfl) (Nat.le_of_ble_eq_true rfl) (Nat.le_of_ble_eq_true rfl) (Nat.le_of_ble_eq_true rfl) d_Cor_run_29 d_Cor_run_32 d_Cor_run_33 d_Cor_run_35 d_Cor_run_38
set_option maxHeartbeats 4000000 in
set_option maxRecDepth 100000 in
theorem t_Cor_toldX (l : Launch) (htr : ∀ e, l.admits e → e.platform.stackTraces = false) (D : va_G) (ti : Nat → ClassId) (sz : Nat) (ad : Nat → Nat) (u : MT) (pi ex de : Nat) (xi xb di db fi fb : Int32) (ob reg : Nat → Nat) (kq : Int32 × Bool × Bool × Int32 × Int64) (ca va fv : Int32) (R : Nat → Cap) (co : Nat) (kp : Int32 × Bool × Bool × Int32 × Int64) (rc st tr : Int32) (ha : Bool) (r : Int32) (hbd : r < 0 ∨ 37 ≤ r) (x : Int32) : Ctt l y_Cor_told (wl y_Cor_told b_Cor_told 4 (some .int)) (rmC 6 1 6) (PcT D clz (ty4 ti) [.ref co, .int r, .int x] ((CW ad ti u pi ex de xi xb di db fi fb ob reg kq ca va fv R) ++ (KT ti co ob reg kp rc st tr ha)) sz (TW 58 "java/lang/IndexOutOfBoundsException" 85 "no such register")) "java/lang/IndexOutOfBoundsException" 1 6 := by
  refine Ctt.ofF (by decide) (Nat.le_of_ble_eq_true rfl) ?_
  intro p9 e9 s9 m9 b9 me9 c9 ls S hex hlk hl hZ hw
  obtain ⟨hx, hb, hml, hown, hts⟩ := id S
  have hl : lv_has ls 4 [(0, .ref co), (1, .int r), (2, .int x)] := hl
  refine lv_iload_n hx hb d_Cor_told_0 rfl (lv_at hl 1 rfl) ?_
  refine lv_if_lt hx hb d_Cor_told_1 rfl (fun h1 => ?_) (fun h1 => ?_)
  · exact q_thr S hex hlk htr hZ (by decide) tb_2_197 tb_2_198 tb_1_16 hl.1 (Nat.le_of_ble_eq_true rfl) (Nat.le_of_ble_eq_true rfl) (Nat.le_of_ble_eq_true rfl) (Nat.le_of_ble_eq_true rfl) d_Cor_told_10 d_Cor_told_13 d_Cor_told_14 d_Cor_told_16 d_Cor_told_19
  · refine lv_iload_n hx hb d_Cor_told_4 rfl (lv_at hl 1 rfl) ?_
    refine lv_bipush (v := 37) hx hb d_Cor_told_5 (by decide) ?_
    refine lv_icmp_lt hx hb d_Cor_told_7 rfl (fun h7 => ?_) (fun h7 => ?_)
    · exact (hbd.elim h1 (Int32.not_le.mpr h7)).elim
    · exact q_thr S hex hlk htr hZ (by decide) tb_2_197 tb_2_198 tb_1_16 hl.1 (Nat.le_of_ble_eq_true rfl) (Nat.le_of_ble_eq_true rfl) (Nat.le_of_ble_eq_true rfl) (Nat.le_of_ble_eq_true rfl) d_Cor_told_10 d_Cor_told_13 d_Cor_told_14 d_Cor_told_16 d_Cor_told_19
set_option maxHeartbeats 4000000 in
set_option maxRecDepth 100000 in
theorem t_Cor_toldY (l : Launch) (htr : ∀ e, l.admits e → e.platform.stackTraces = false) (D : va_G) (ti : Nat → ClassId) (sz : Nat) (ad : Nat → Nat) (u : MT) (pi ex de : Nat) (xi xb di db fi fb : Int32) (ob reg : Nat → Nat) (kq : Int32 × Bool × Bool × Int32 × Int64) (ca va fv : Int32) (R : Nat → Cap) (co : Nat) (kp : Int32 × Bool × Bool × Int32 × Int64) (rc st tr : Int32) (ha : Bool) (r : Nat) (hrr : r < 37) (x : Int32) (hbd : x < 0 ∨ 6 < x) : Ctt l y_Cor_told (wl y_Cor_told b_Cor_told 4 (some .int)) (rmC 6 1 6) (PcT D clz (ty4 ti) [.ref co, .int (nI r), .int x] ((CW ad ti u pi ex de xi xb di db fi fb ob reg kq ca va fv R) ++ (KT ti co ob reg kp rc st tr ha)) sz (TW 95 "java/lang/IllegalArgumentException" 161 "nothing of that number is told")) "java/lang/IllegalArgumentException" 1 6 := by
  refine Ctt.ofF (by decide) (Nat.le_of_ble_eq_true rfl) ?_
  intro p9 e9 s9 m9 b9 me9 c9 ls S hex hlk hl hZ hw
  obtain ⟨hx, hb, hml, hown, hts⟩ := id S
  have hl : lv_has ls 4 [(0, .ref co), (1, .int (nI r)), (2, .int x)] := hl
  refine lv_iload_n hx hb d_Cor_told_0 rfl (lv_at hl 1 rfl) ?_
  refine lv_if_lt hx hb d_Cor_told_1 rfl (fun h => absurd h (nI_pos (by omega))) (fun _ => ?_)
  refine lv_iload_n hx hb d_Cor_told_4 rfl (lv_at hl 1 rfl) ?_
  refine lv_bipush (v := 37) hx hb d_Cor_told_5 (by decide) ?_
  refine lv_icmp_lt hx hb d_Cor_told_7 rfl (fun _ => ?_) (fun h => absurd h (not_not_intro (nI_lt (a := r) (b := 37) hrr (by decide))))
  refine lv_aload_n hx hb d_Cor_told_20 rfl (lv_at hl 0 rfl) ?_
  refine q_get S hw ly_Cor 69 rfl rfl 0 (by decide) tb_2_67 rfl rfl d_Cor_told_21 ?_
  refine q_get S hw ly_Sta 16 rfl rfl 0 (by decide) tb_1_208 rfl rfl d_Cor_told_24 ?_
  refine lv_iload_n hx hb d_Cor_told_27 rfl (lv_at hl 1 rfl) ?_
  refine q_aaldN (k := r) S hw 17 3 rfl rfl (by first | assumption | omega) (by decide) d_Cor_told_28 ?_
  refine lv_astore_n (lv' := [(3, .ref (reg r)), (0, .ref co), (1, .int (nI r)), (2, .int x)]) hx hb d_Cor_told_29 rfl hl (by decide) rfl (fun ls hl => ?_)
  refine lv_iload_n hx hb d_Cor_told_30 rfl (lv_at hl 3 rfl) ?_
  by_cases hc31_0 : x = (0 : Int32)
  · refine lv_tableIn hx hb d_Cor_told_31 (by rw [hc31_0]; decide) (by rw [hc31_0]; decide) (by rw [hc31_0]; rfl) rfl ?_
    exact absurd hbd (by rw [hc31_0]; decide)
  by_cases hc31_1 : x = (1 : Int32)
  · refine lv_tableIn hx hb d_Cor_told_31 (by rw [hc31_1]; decide) (by rw [hc31_1]; decide) (by rw [hc31_1]; rfl) rfl ?_
    exact absurd hbd (by rw [hc31_1]; decide)
  by_cases hc31_2 : x = (2 : Int32)
  · refine lv_tableIn hx hb d_Cor_told_31 (by rw [hc31_2]; decide) (by rw [hc31_2]; decide) (by rw [hc31_2]; rfl) rfl ?_
    exact absurd hbd (by rw [hc31_2]; decide)
  by_cases hc31_3 : x = (3 : Int32)
  · refine lv_tableIn hx hb d_Cor_told_31 (by rw [hc31_3]; decide) (by rw [hc31_3]; decide) (by rw [hc31_3]; rfl) rfl ?_
    exact absurd hbd (by rw [hc31_3]; decide)
  by_cases hc31_4 : x = (4 : Int32)
  · refine lv_tableIn hx hb d_Cor_told_31 (by rw [hc31_4]; decide) (by rw [hc31_4]; decide) (by rw [hc31_4]; rfl) rfl ?_
    exact absurd hbd (by rw [hc31_4]; decide)
  by_cases hc31_5 : x = (5 : Int32)
  · refine lv_tableIn hx hb d_Cor_told_31 (by rw [hc31_5]; decide) (by rw [hc31_5]; decide) (by rw [hc31_5]; rfl) rfl ?_
    exact absurd hbd (by rw [hc31_5]; decide)
  by_cases hc31_6 : x = (6 : Int32)
  · refine lv_tableIn hx hb d_Cor_told_31 (by rw [hc31_6]; decide) (by rw [hc31_6]; decide) (by rw [hc31_6]; rfl) rfl ?_
    exact absurd hbd (by rw [hc31_6]; decide)
  refine lv_tableOut hx hb d_Cor_told_31 (by have := lv_neT hc31_0 (a := 0) rfl; have := lv_neT hc31_1 (a := 1) rfl; have := lv_neT hc31_2 (a := 2) rfl; have := lv_neT hc31_3 (a := 3) rfl; have := lv_neT hc31_4 (a := 4) rfl; have := lv_neT hc31_5 (a := 5) rfl; have := lv_neT hc31_6 (a := 6) rfl; omega) rfl ?_
  exact q_thr S hex hlk htr hZ (by decide) tb_3_79 tb_3_80 tb_1_18 hl.1 (Nat.le_of_ble_eq_true rfl) (Nat.le_of_ble_eq_true rfl) (Nat.le_of_ble_eq_true rfl) (Nat.le_of_ble_eq_true rfl) d_Cor_told_116 d_Cor_told_119 d_Cor_told_120 d_Cor_told_122 d_Cor_told_125
set_option maxHeartbeats 4000000 in
set_option maxRecDepth 100000 in
theorem t_Cor_count (l : Launch) (htr : ∀ e, l.admits e → e.platform.stackTraces = false) (D : va_G) (ti : Nat → ClassId) (sz : Nat) (ad : Nat → Nat) (u : MT) (pi ex de : Nat) (xi xb di db fi fb : Int32) (ob reg : Nat → Nat) (kq : Int32 × Bool × Bool × Int32 × Int64) (ca va fv : Int32) (R : Nat → Cap) (co : Nat) (kp : Int32 × Bool × Bool × Int32 × Int64) (rc st tr : Int32) (ha : Bool) (x : Int32) (hbd : x < 0 ∨ 6 < x) : Ctt l y_Cor_count (wl y_Cor_count b_Cor_count 2 (some .int)) (rmC 6 1 6) (PcT D clz (ty4 ti) [.ref co, .int x] ((CW ad ti u pi ex de xi xb di db fi fb ob reg kq ca va fv R) ++ (KT ti co ob reg kp rc st tr ha)) sz (TW 95 "java/lang/IllegalArgumentException" 184 "nothing of that number is counted")) "java/lang/IllegalArgumentException" 1 6 := by
  refine Ctt.ofF (by decide) (Nat.le_of_ble_eq_true rfl) ?_
  intro p9 e9 s9 m9 b9 me9 c9 ls S hex hlk hl hZ hw
  obtain ⟨hx, hb, hml, hown, hts⟩ := id S
  have hl : lv_has ls 2 [(0, .ref co), (1, .int x)] := hl
  refine lv_iload_n hx hb d_Cor_count_0 rfl (lv_at hl 1 rfl) ?_
  by_cases hc1_0 : x = (0 : Int32)
  · refine lv_tableIn hx hb d_Cor_count_1 (by rw [hc1_0]; decide) (by rw [hc1_0]; decide) (by rw [hc1_0]; rfl) rfl ?_
    exact absurd hbd (by rw [hc1_0]; decide)
  by_cases hc1_1 : x = (1 : Int32)
  · refine lv_tableIn hx hb d_Cor_count_1 (by rw [hc1_1]; decide) (by rw [hc1_1]; decide) (by rw [hc1_1]; rfl) rfl ?_
    exact absurd hbd (by rw [hc1_1]; decide)
  by_cases hc1_2 : x = (2 : Int32)
  · refine lv_tableIn hx hb d_Cor_count_1 (by rw [hc1_2]; decide) (by rw [hc1_2]; decide) (by rw [hc1_2]; rfl) rfl ?_
    exact absurd hbd (by rw [hc1_2]; decide)
  by_cases hc1_3 : x = (3 : Int32)
  · refine lv_tableIn hx hb d_Cor_count_1 (by rw [hc1_3]; decide) (by rw [hc1_3]; decide) (by rw [hc1_3]; rfl) rfl ?_
    exact absurd hbd (by rw [hc1_3]; decide)
  by_cases hc1_4 : x = (4 : Int32)
  · refine lv_tableIn hx hb d_Cor_count_1 (by rw [hc1_4]; decide) (by rw [hc1_4]; decide) (by rw [hc1_4]; rfl) rfl ?_
    exact absurd hbd (by rw [hc1_4]; decide)
  by_cases hc1_5 : x = (5 : Int32)
  · refine lv_tableIn hx hb d_Cor_count_1 (by rw [hc1_5]; decide) (by rw [hc1_5]; decide) (by rw [hc1_5]; rfl) rfl ?_
    exact absurd hbd (by rw [hc1_5]; decide)
  by_cases hc1_6 : x = (6 : Int32)
  · refine lv_tableIn hx hb d_Cor_count_1 (by rw [hc1_6]; decide) (by rw [hc1_6]; decide) (by rw [hc1_6]; rfl) rfl ?_
    exact absurd hbd (by rw [hc1_6]; decide)
  refine lv_tableOut hx hb d_Cor_count_1 (by have := lv_neT hc1_0 (a := 0) rfl; have := lv_neT hc1_1 (a := 1) rfl; have := lv_neT hc1_2 (a := 2) rfl; have := lv_neT hc1_3 (a := 3) rfl; have := lv_neT hc1_4 (a := 4) rfl; have := lv_neT hc1_5 (a := 5) rfl; have := lv_neT hc1_6 (a := 6) rfl; omega) rfl ?_
  exact q_thr S hex hlk htr hZ (by decide) tb_3_79 tb_3_80 tb_1_18 hl.1 (Nat.le_of_ble_eq_true rfl) (Nat.le_of_ble_eq_true rfl) (Nat.le_of_ble_eq_true rfl) (Nat.le_of_ble_eq_true rfl) d_Cor_count_99 d_Cor_count_102 d_Cor_count_103 d_Cor_count_105 d_Cor_count_108
set_option maxHeartbeats 4000000 in
set_option maxRecDepth 100000 in
theorem t_Cor_pack (l : Launch) (htr : ∀ e, l.admits e → e.platform.stackTraces = false) (D : va_G) (ti : Nat → ClassId) (sz : Nat) (ad : Nat → Nat) (u : MT) (pi ex de : Nat) (xi xb di db fi fb : Int32) (ob reg : Nat → Nat) (kq : Int32 × Bool × Bool × Int32 × Int64) (ca va fv : Int32) (R : Nat → Cap) (co : Nat) (kp : Int32 × Bool × Bool × Int32 × Int64) (rc st tr : Int32) (ha : Bool) (b : Int32) (n : Int64) (hbd : fitS b n = false) : Ctt l y_Cor_pack (wl y_Cor_pack b_Cor_pack 6 (some .int)) (rmC 6 1 6) (PcT D clz (ty4 ti) [.ref co, .int b, .long n] ((CW ad ti u pi ex de xi xb di db fi fb ob reg kq ca va fv R) ++ (KT ti co ob reg kp rc st tr ha)) sz (TW 95 "java/lang/IllegalArgumentException" 186 "beyond the space of addresses")) "java/lang/IllegalArgumentException" 1 6 := by
  refine Ctt.ofF (by decide) (Nat.le_of_ble_eq_true rfl) ?_
  intro p9 e9 s9 m9 b9 me9 c9 ls S hex hlk hl hZ hw
  obtain ⟨hx, hb, hml, hown, hts⟩ := id S
  have hl : lv_has ls 6 [(0, .ref co), (1, .int b), (2, .long n)] := hl
  refine lv_iload_n hx hb d_Cor_pack_0 rfl (lv_at hl 1 rfl) ?_
  refine lv_lload_n hx hb d_Cor_pack_1 rfl (lv_at hl 2 rfl) ?_
  refine q_cr (q_runS (As := [.int b, .long n]) (rest := []) S ((c_Cor_fitsSpace l D (ty4 ti) b n).nil _) (cw_s hts tb_3_74 k_Cor_fitsSpace rfl rfl ⟨by decide, by decide⟩) hw rfl hl.1 rfl (Nat.le_of_ble_eq_true rfl) d_Cor_pack_2 ⟨Nat.zero_le _, Nat.zero_le _⟩) ?_
  refine W.eq (g2 := F0 m9 5 ls [.int (jb (fitS b n))]) rfl ?_
  refine q_ifz_ne S d_Cor_pack_5 rfl (fun h5 => ?_) (fun h5 => ?_)
  · exact absurd h5 (fne hbd)
  · exact q_thr S hex hlk htr hZ (by decide) tb_3_79 tb_3_80 tb_1_18 hl.1 (Nat.le_of_ble_eq_true rfl) (Nat.le_of_ble_eq_true rfl) (Nat.le_of_ble_eq_true rfl) (Nat.le_of_ble_eq_true rfl) d_Cor_pack_8 d_Cor_pack_11 d_Cor_pack_12 d_Cor_pack_14 d_Cor_pack_17
