/-! What is thrown by a callee, and caught. -/
section QV
variable {p : Program} {l : Launch} {e : Env} {R : Room} {s : State} {m : MethodId} {args : Array Value} {below : List Frame} {meth : Method} {c : Code} {T : State} {locs : List Loc} {cells slots : Nat}
/-- what a thrower leaves -/
def PostT (X : String) (mc ms : Nat) : Pt → Array Value → Addr → Pt → Prop := fun A a v B =>
  ∃ (g : JFrame) (mk : MethodId) (t : State), B.U.heap = t.heap ∧ B.U.vm = t.vm ∧ QT X a (A.U.calling g mk a) (.threw v) t ∧ B.locs = A.locs ∧ B.cells = A.cells + mc ∧ B.slots = A.slots + ms
theorem back_T {y : MethodName} {ws : List Cond} {rm : Room} {Pc : Array Value → State → Prop} {X : String} {mc ms W len : Nat} {bytes : ByteArray} {maxL : Nat} {ret : Option FieldType}
    (hM : Ctt l y ws rm Pc X mc ms) (hblind : FrameBlind Pc) (hrc : rm.cells = mc) (hrs : rm.slots = ms)
    (hframes : rm.frames + 1 ≤ R.frames) (hlocals : W + (maxL + 11) + rm.locals ≤ R.locals)
    (hws : ∀ w ∈ ws, ∀ a' U, s.WarmedH U.vm → w.before a' U = true) (hcode : Cond.code y bytes maxL ret ∈ ws) (hinit : ∀ a' U, s.WarmedH U.vm → (Cond.initialized y.cls).before a' U = true) :
    Jvm.Free.BackT l R p e below s args y len W (PreOf R mc ms Pc) (PostT X mc ms) := by
  refine Jvm.Free.BackT.of_free (S := headSpec ws rm) (P := Pc) (K := fun _ _ _ _ _ => True) (Q := fun a st o t => QT X a st o t ∧ Jvm.Free.FrameEndT st o t [] mc ms) (bytes := bytes) (maxL := maxL) (ret := ret)
    (E := fun a st o t L k n => L = [] ∧ k = mc ∧ n = ms) hM hframes hlocals ?_ ?_ (fun _ _ _ _ _ _ _ _ _ => trivial) ?_ ?_
  · intro m meth c A a X9 hp
    exact ⟨atoms_intro fun w hw => hws w hw _ _ X9.warmed, hws _ hcode _ _ X9.warmed, hinit _ _ X9.warmed, by rw [show (headSpec ws rm).room.cells = mc from hrc]; exact hp.1, by rw [show (headSpec ws rm).room.slots = ms from hrs]; exact hp.2.1⟩
  · intro m meth c A a g mk X9 hp
    exact hblind _ _ _ _ hp.2.2
  · intro a st o t ⟨hq, hF⟩
    exact ⟨[], mc, ms, hF, rfl, rfl, rfl⟩
  · intro m meth c A a g mk v t L k n X9 hp hq hF ⟨e0, e1, e2⟩
    subst e0; subst e1; subst e2
    exact ⟨g, mk, t, rfl, rfl, hq.1, List.append_nil _, rfl, rfl⟩
theorem call_T (X : Stand p l e R s m args below meth c T locs cells slots) (hexec : p.tables.exec = Jvm.exec) {own C : String} {index : Nat} {y : MethodName} {bytes : ByteArray} {maxL : Nat} {ret : Option FieldType}
    (hown : s.vm.findClass own = some m.cls) (hlink : (Cond.methodLink own index y).before args s = true) (hinst : (Cond.instanceMethod y).before args s = true) (hsel : (Cond.selects C y y).before args s = true)
    (hcode : (Cond.code y bytes maxL ret).before args s = true) (hy : y.cls ≠ "java/lang/invoke/MethodHandle" ∧ y.cls ≠ "java/lang/invoke/VarHandle")
    {W : Nat} {Pre : Pt → Array Value → Prop} {Post : Pt → Array Value → Addr → Pt → Prop} (hK : Jvm.Free.BackT l R p e below s args y 3 W Pre Post)
    {b : Addr} {cellB : Cell} (hcell : T.heap[b]? = some cellB) (hobj : cellB.vm.isStatics = false) (hcls : s.vm.findClass C = some cellB.cls)
    {g : JFrame} (hg : g.method = m) (hsize : g.locals.size = c.maxLocals) {argsL rest : List Value} (hlen : ∀ sig, parseMethodDescriptor y.desc = some sig → argsL.length = sig.parameters.length)
    (hstack : g.stack = argsL.reverse ++ .ref b :: rest) (hW : 2 * g.monitorRoom + (rest.map fun v => v.category).sum ≤ W) (hdg : decode c.code g.pc = .ok (.invokevirtual index, 3))
    (hpre : ∀ vm₁, s.WarmedH vm₁ → Pre ⟨T.setVm vm₁, locs, cells, slots⟩ (Value.ref b :: argsL).toArray) :
    ∃ (v : Addr) (vm₁ : Vm) (B : Pt), s.WarmedH vm₁ ∧ Stand p l e R s m args below meth c B.U B.locs B.cells B.slots ∧ Post ⟨T.setVm vm₁, locs, cells, slots⟩ (Value.ref b :: argsL).toArray v B ∧
      Steps p.tables e below (T.setTop g) ((B.U.setTop { g with stack := rest }).pushFrame (.throwing v)) := by
  obtain ⟨mk, methM, hnamed, hmethM, hstM, habM⟩ := Cond.instanceMethod_spec hinst
  obtain ⟨methM', cM, hmethM', -, -, -, -, -, -, hsigM⟩ := Cond.code_spec hnamed hcode
  cases hmethM.symm.trans hmethM'
  obtain ⟨c2, r2, m2, q1, q2, q3, q4, kP, hkP, hkPi⟩ := Cond.selects_spec hsel
  cases hcls.symm.trans q1
  cases (State.methodFound?_of_named hnamed hy).symm.trans q2
  cases hnamed.symm.trans q3
  have hselP : selectMethod e.platform s.vm cellB.cls mk = .method mk := by rw [Launch.admits_selectMethod X.admits]; exact q4
  obtain ⟨vm₁, X₁, hstep₁⟩ := X.invokevirtual hexec hown hlink hnamed hmethM hstM hkP hkPi hy (a := b) (cell := cellB) hcell
    (fun z h => by rw [h] at hobj; cases hobj) hselP hmethM habM hkP hkPi (g := g) hg (argsL := argsL) (rest := rest) (hlen _ hsigM) hstack hdg
  obtain ⟨v, B, X', hpost, hsteps⟩ := hK m meth c ⟨T.setVm vm₁, locs, cells, slots⟩ { g with stack := rest } (.invokevirtual index) mk (Value.ref b :: argsL).toArray X₁ hg hsize hdg hW (X₁.named hnamed) (hpre vm₁ X₁.warmed)
  exact ⟨v, vm₁, B, X₁.warmed, X', hpost, (hstep₁ _ fun acts => by rw [doInvoke_state]; exact Steps.refl _).trans hsteps⟩
end QV
section QW
variable {p : Program} {l : Launch} {e : Env} {R : Room} {s : State} {m : MethodId} {args : Array Value} {below : List Frame} {meth : Method} {c : Code} {H : Heap} {locs : List Loc} {cells slots : Nat} {Q : State → Prop}
variable {cc : ByteArray} {pc nL : Nat} {ls : Array Slot} {rest st0 : List Value} {D : va_G} {cl : List vw_C} {A : Nat → Prop} {b : Nat} {tys : List (ClassId × FieldType)} {wc Y : va_W} {H0 : Heap} {Ts : List Cond} {own C : String}
variable {y : MethodName} {bytes : ByteArray} {maxL mc ms n index : Nat} {ret : Option FieldType} {rm : Room} {wl0 : List Cond} {As : List Value} {Z : State → Prop}
theorem Lv.left (hw : Lv D cl tys A H0 (wc ++ Y) s H locs) : Lv D cl tys A H0 wc s H locs := by
  have hl : ∀ (k : Nat) (q : Nat × va_E), wc[k]? = some q → (wc ++ Y)[id k]? = some q := fun k q hk => by show (wc ++ Y)[k]? = some q; rw [List.getElem?_append_left (List.getElem?_eq_some_iff.mp hk).1]; exact hk
  exact ⟨hw.1.by id hl, hw.2.1, hw.2.2.1.by id hl (fun i j _ _ e => e), hw.2.2.2⟩
theorem PcT.blind {av : List Value} {sz : Nat} (hZ : ∀ (U : State) (g : JFrame) (mk : MethodId) (a : Array Value), Z U → Z (U.calling g mk a)) : FrameBlind (PcT D cl tys av wc sz Z) := fun a U g mk q => ⟨PrN.blind a U g mk q.1, hZ U g mk a q.2⟩
theorem va_P.old {H1 : Heap} (hP : va_P D cl wc H) (hold : ∀ q : Nat, q < H.size → H1[q]? = H[q]?) : va_P D cl wc H1 := fun k q hk => (hP k q hk).kept (hold q.1 (hP k q hk).lt)
theorem Lv.old {H1 : Heap} (hw : Lv D cl tys A H0 wc s H locs) (hold : ∀ q : Nat, q < H.size → H1[q]? = H[q]?) (hsz : H.size ≤ H1.size) : Lv D cl tys A H0 wc s H1 locs := by
  obtain ⟨hP, hK, hD, hS⟩ := hw
  exact ⟨va_P.old hP hold, hK, hD, ⟨Nat.le_trans hS.1 hsz, fun q h1 h2 => (hold q (Nat.lt_of_lt_of_le h1 hS.1)).trans (hS.2.1 q h1 h2), hS.2.2⟩⟩
/-- a clause that is passed -/
def Psd (X own : String) (pc : Nat) (args : Array Value) (s : State) (Ts : List Cond) (z : ExceptionTableEntry) : Prop := covers z pc = false ∨ ∃ nm : String, z.catchType ≠ 0 ∧ Cond.classLink own z.catchType nm ∈ Ts ∧ (Cond.not (.castable X nm)).before args s = true
/-- a call that throws, and the clause x catches it -/
theorem q_catch {X : String} {hpc : Nat} (S0 : CallFix p m c cc nL s args Ts own) (hM : Ctt l y wl0 rm (PcT D cl tys (.ref b :: As) wc H.size Z) X mc ms) (cw : CallW R s args own C index y bytes maxL ret wl0 rm mc ms n) (hw : Lv D cl tys A H0 Y s H locs) (hwc : Lv D cl tys A H0 wc s H locs) (hN : NW s) (hZb : ∀ (U : State) (g : JFrame) (mk : MethodId) (a : Array Value), Z U → Z (U.calling g mk a)) (hZ : ∀ U : State, U.heap = H → s.WarmedH U.vm → Z U)
    (q0 : Nat) {T : u_T} {N ci : Nat} {fs : List Value} (he : Y[q0]? = some (b, .inr (ci, fs))) (hc : cl[ci]? = some (C, T, N)) (hn : As.length = n) (hsize : ls.size = nL) (hst : st0 = As.reverse ++ .ref b :: rest) (hW : (rest.map fun v => v.category).sum ≤ 8) (hdg : decode cc pc = .ok (.invokevirtual index, 3)) (hf : cells + mc ≤ R.cells ∧ slots + ms ≤ R.slots)
    (pre : List ExceptionTableEntry) (x : ExceptionTableEntry) (post : List ExceptionTableEntry) (hsplit : c.exceptionTable.toList = pre ++ x :: post) (hpass : ∀ z ∈ pre, Psd X own pc args s Ts z) (hx : covers x pc = true) (h0 : x.catchType ≠ 0) (hpc' : x.handlerPc = hpc) (hlink : Cond.classLink own x.catchType X ∈ Ts) (hcast : (Cond.castable X X).before args s = true)
    (kk : ∀ (a : Nat) (H1 : Heap), (∀ q : Nat, q < H.size → H1[q]? = H[q]?) → Lv D cl tys A H0 Y s H1 locs → W p l e R s m args below meth c H1 locs (cells + mc) (slots + ms) Q (F0 m hpc ls [.ref a])) : W p l e R s m args below meth c H locs cells slots Q (F0 m pc ls st0) := by
  obtain ⟨hrc, hrs, hfr, hlo, hws, hcw, hcode, hini, hy, hlen, hl⟩ := cw.1
  have hK : Jvm.Free.BackT l R p e below s args y 3 8 (PreOf R mc ms (PcT D cl tys (.ref b :: As) wc H.size Z)) (PostT X mc ms) := back_T (bytes := bytes) (maxL := maxL) (ret := ret) hM (PcT.blind hZb) hrc hrs hfr hlo hws hcw (fun a' U hW => word_at hW (Or.inl (by first | rfl | simp [Cond.onTables, Cond.keeps, Cond.steady])) hini)
  obtain ⟨hxc, hb, hml, ho, hts⟩ := S0
  obtain ⟨cellB, hcB, hoB, hclB⟩ := va_recv hw.2.1 hw.1 hc he
  intro T9 hT9 X9
  obtain ⟨v, vm₁, ⟨U', l2, c2, s2⟩, hW₁, X', ⟨g', mk, t, e1, e2, hq, h1, h2, h3⟩, st⟩ := call_T X9 hxc (C := C) (bytes := bytes) (maxL := maxL) (ret := ret) ho hl cw.2.1 cw.2.2 hcode hy hK (by rw [hT9]; exact hcB) hoB hclB (g := F0 m pc ls st0) rfl (hsize.trans hml.symm) (argsL := As) (rest := rest) (fun sig h => hn.trans (hlen sig h)) hst (lv_room (pc := pc) (ls := ls) (rest := st0) hW) (by rw [hb]; exact hdg)
    (fun vm₁ hW₁ => ⟨hf.1, hf.2, hwc.preW hN (T9.setVm vm₁) hT9 hW₁, hZ (T9.setVm vm₁) hT9 hW₁⟩)
  dsimp only [Pt.U, Pt.locs, Pt.cells, Pt.slots] at X' e1 e2 h1 h2 h3 st
  subst h1; subst h2; subst h3
  obtain ⟨x9, cell, ho9, hsz, hcell, hvm, hfc, hold⟩ := hq
  cases ho9
  have hH : ((T9.setVm vm₁).calling g' mk (Value.ref b :: As).toArray).heap = H := hT9
  rw [hH] at hsz hold
  have hfX : s.vm.findClass X = some cell.cls := by
    have h9 : ((T9.setVm vm₁).calling g' mk (Value.ref b :: As).toArray).vm = vm₁ := rfl
    rw [h9, hW₁.alike.findClass] at hfc
    exact hfc
  obtain ⟨cX, cX2, k1, k2, hfit⟩ := Cond.castable_spec hcast
  cases hfX.symm.trans k1
  cases hfX.symm.trans k2
  have hobj : cell.vm.isStatics = false := by rw [hvm]; rfl
  have hpl : e.platform.magicAccessors = ({} : Platform).magicAccessors := by rw [X'.admits.platform]
  obtain ⟨hend, hk0⟩ := X'.catches_of_link ho h0 (hts _ hlink) hfX hfit
  obtain ⟨vm', XV, stv⟩ := X'.thenCaughtThrough v (g := { F0 m pc ls st0 with stack := rest }) rfl st (by rw [e1]; exact hcell) hobj hk0 pre x post hsplit
    (fun z hz => (hpass z hz).elim Or.inl (fun ⟨nm, z0, zl, zn⟩ => RowPassed.of_words hpl ho z0 (hts _ zl) hfX zn)) hx hend
  have hlt : v < t.heap.size := (Array.getElem?_eq_some_iff.mp hcell).1
  obtain ⟨t1, hs1, hs2⟩ := kk v t.heap hold (hw.old hold (Nat.le_of_lt (Nat.lt_of_le_of_lt hsz hlt))) (U'.setVm vm') e1 XV
  refine ⟨t1, stv.trans ?_, hs2⟩
  subst hpc'
  exact hs1
end QW
