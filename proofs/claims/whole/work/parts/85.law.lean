/-! The law: worlds that are named, not shown; callees with clauses; what a throw asks. -/
theorem qD_perm {A : Nat → Prop} {ws ws' : va_W} (h : (ws'.map (fun q => q.1)).Perm (ws.map (fun q => q.1))) (hD : va_D A ws) : va_D A ws' := by
  have nd : (ws.map (fun q => q.1)).Nodup := List.pairwise_iff_getElem.mpr (fun i j hi hj hij e => by
    rw [List.getElem_map, List.getElem_map] at e
    rw [List.length_map] at hi hj
    have := hD.1 i j _ _ (List.getElem?_eq_getElem hi) (List.getElem?_eq_getElem hj) e
    omega)
  have nd' : (ws'.map (fun q => q.1)).Nodup := h.nodup_iff.mpr nd
  refine ⟨fun i j p q hp hq e => ?_, fun k q hk => ?_⟩
  · have hi : (ws'.map (fun q => q.1))[i]? = some p.1 := by rw [List.getElem?_map, hp]; rfl
    have hj : (ws'.map (fun q => q.1))[j]? = some q.1 := by rw [List.getElem?_map, hq]; rfl
    obtain ⟨li, ei⟩ := List.getElem?_eq_some_iff.mp hi
    obtain ⟨lj, ej⟩ := List.getElem?_eq_some_iff.mp hj
    rcases Nat.lt_trichotomy i j with h1 | h1 | h1
    · exact absurd (by rw [ei, ej, e]) (List.pairwise_iff_getElem.mp nd' i j li lj h1)
    · exact h1
    · exact absurd (by rw [ei, ej, e]) (List.pairwise_iff_getElem.mp nd' j i lj li h1)
  · have h1 : q.1 ∈ ws.map (fun q => q.1) := h.mem_iff.mp (List.mem_map.mpr ⟨q, List.mem_of_getElem? hk, rfl⟩)
    obtain ⟨q2, m2, e2⟩ := List.mem_map.mp h1
    obtain ⟨i, hi⟩ := List.getElem?_of_mem m2
    rw [← e2]
    exact hD.2 i q2 hi
theorem Cg.back {S : Type} {l : Launch} {y : MethodName} {wl : List Cond} {rm : Room} {D : va_G} {cl : List vw_C} {tys : List (ClassId × FieldType)} {av : List Value} {ws : va_W} {v : S → Option Value} {ws' : S → va_W} {post : S → Prop} (h : Cg l y wl rm D cl tys av ws v ws' post) (hlen : ∀ u, (ws' u).length = ws.length) (Y : va_W) : Cg l y wl rm D cl tys av (Y ++ ws) v (fun u => Y ++ ws' u) post :=
  h.emb _ _ (fun k => Y.length + k) (fun k q hk => by show (Y ++ ws)[Y.length + k]? = some q; rw [List.getElem?_append_right (Nat.le_add_right _ _), Nat.add_sub_cancel_left]; exact hk) (fun i j _ _ e => by have e' : Y.length + i = Y.length + j := e; omega) (fun u k q hk => by
    by_cases hlt : k < Y.length
    · rw [List.getElem?_append_left hlt] at hk
      exact Or.inr ⟨by rw [List.getElem?_append_left hlt]; exact hk, fun i _ e => by have e' : Y.length + i = k := e; omega⟩
    · rw [List.getElem?_append_right (Nat.le_of_not_lt hlt)] at hk
      exact Or.inl ⟨_, hk⟩)
/-- a world with P at the places of wc -/
abbrev Pz (wc : va_W) (P : va_W → Prop) : Type := {z : va_W // P z ∧ (z.map (fun q => q.1)).Perm (wc.map (fun q => q.1))}
theorem Pz.len {wc : va_W} {P : va_W → Prop} (z : Pz wc P) : z.1.length = wc.length := by
  have h := z.2.2.length_eq
  rwa [List.length_map, List.length_map] at h
def CK (l : Launch) (y : MethodName) (wl0 : List Cond) (rm : Room) (D : va_G) (ti : Nat → ClassId) (av : List Value) (wc : va_W) (P : va_W → Prop) (v : Option Value) : Prop :=
  Cg l y wl0 rm D clz (ty4 ti) av wc (fun _ : Pz wc P => v) (fun z => z.1) (fun _ => True)
section QK
variable {l : Launch} {y : MethodName} {wl0 : List Cond} {rm : Room} {D : va_G} {ti : Nat → ClassId} {av : List Value} {wc : va_W} {P : va_W → Prop}
theorem Cg.toK {S : Type} {v : S → Option Value} {ws' : S → va_W} {post : S → Prop} {v0 : Option Value} (h : Cg l y wl0 rm D clz (ty4 ti) av wc v ws' post) (hv : ∀ u, post u → v u = v0 ∧ P (ws' u) ∧ ((ws' u).map (fun q => q.1)).Perm (wc.map (fun q => q.1))) : CK l y wl0 rm D ti av wc P v0 := by
  refine Met.mono h (fun _ _ hp => hp) (fun a s o t hp hq => ?_) (fun _ h => h)
  obtain ⟨⟨u, ho, hpo, hP⟩, hF⟩ := hq
  obtain ⟨h1, h2, h3⟩ := hv u hpo
  exact ⟨⟨⟨ws' u, h2, h3⟩, by rw [ho, h1], trivial, hP⟩, hF⟩
theorem Cr.toK {v0 : Option Value} (h : Cr l y wl0 rm D clz (ty4 ti) av wc v0) (hP : P wc) : CK l y wl0 rm D ti av wc P v0 := by
  refine Met.mono h (fun _ _ hp => hp) (fun a s o t hp hq => ?_) (fun _ h => h.elim)
  obtain ⟨ho, hh⟩ := hq
  exact ⟨⟨⟨wc, hP, List.Perm.refl _⟩, ho, trivial, by rw [hh]; exact hp.2.1⟩, by rw [hh]; exact Nat.le_refl _, fun q _ _ => by rw [hh]⟩
theorem CK.at {v0 : Option Value} (h : CK l y wl0 rm D ti av wc P v0) (X Y : va_W) : Cg l y wl0 rm D clz (ty4 ti) av (X ++ (wc ++ Y)) (fun _ : Pz wc P => v0) (fun z => X ++ (z.1 ++ Y)) (fun _ => True) :=
  (Cg.front h (fun z => z.len) Y).back (fun z => by rw [List.length_append, List.length_append, z.len]) X
theorem Pz.apart {A : Nat → Prop} {X Y : va_W} (z : Pz wc P) (h : va_D A (X ++ (wc ++ Y))) : va_D A (X ++ (z.1 ++ Y)) :=
  qD_perm (by simp only [List.map_append]; exact List.Perm.append_left _ (z.2.2.append_right _)) h
end QK
/-! callees with clauses -/
abbrev wlW (y : MethodName) (bytes : ByteArray) (maxL : Nat) (ret : Option FieldType) (hh : List (Nat × Nat × Nat × Nat)) : List Cond := Cond.codeWith y bytes maxL ret hh :: TB
def Csw (y : MethodName) (bytes : ByteArray) (maxL : Nat) (ret : Option FieldType) (hh : List (Nat × Nat × Nat × Nat)) (n : Nat) : Prop := Cond.static y ∈ TB ∧ Cond.initialized y.cls ∈ TB ∧ Cond.codeWith y bytes maxL ret hh ∈ TB ∧ (y.cls ≠ "java/lang/invoke/MethodHandle" ∧ y.cls ≠ "java/lang/invoke/VarHandle" ∧ (parseMethodDescriptor y.desc).map (fun d => d.parameters.length) = some n)
section QSW
variable {p : Program} {l : Launch} {e : Env} {R : Room} {s : State} {m : MethodId} {args : Array Value} {below : List Frame} {meth : Method} {c : Code} {H : Heap} {locs : List Loc} {cells slots : Nat} {Q : State → Prop}
variable {cc : ByteArray} {pc nL : Nat} {ls : Array Slot} {rest st0 : List Value} {D : va_G} {cl : List vw_C} {A : Nat → Prop} {tys : List (ClassId × FieldType)} {ws : va_W} {H0 : Heap} {own : String}
variable {y : MethodName} {bytes : ByteArray} {maxL mc ms n index : Nat} {ret : Option FieldType} {hh : List (Nat × Nat × Nat × Nat)} {rm : Room} {Pc : Array Value → State → Prop} {Qc : Array Value → State → Outcome → State → Prop} {free : Addr → Prop} {As av : List Value}
theorem callSW {T : State} (X : Stand p l e R s m args below meth c T locs cells slots) (hexec : p.tables.exec = Jvm.exec)
    (hown : s.vm.findClass own = some m.cls) (hlink : (Cond.methodLink own index y).before args s = true) (hstat : (Cond.static y).before args s = true) (hinit : (Cond.initialized y.cls).before args s = true)
    (hcode : (Cond.codeWith y bytes maxL ret hh).before args s = true) (hy : y.cls ≠ "java/lang/invoke/MethodHandle" ∧ y.cls ≠ "java/lang/invoke/VarHandle")
    {W : Nat} {Pre : Pt → Array Value → Prop} {Post : Pt → Array Value → Option Value → Pt → Prop} (hK : Back l R p e below s args y 3 W Pre Post)
    {g : JFrame} (hg : g.method = m) (hsize : g.locals.size = c.maxLocals) {argsL rest : List Value} (hlen : ∀ sig, parseMethodDescriptor y.desc = some sig → argsL.length = sig.parameters.length)
    (hstack : g.stack = argsL.reverse ++ rest) (hW : 2 * g.monitorRoom + (rest.map fun v => v.category).sum ≤ W) (hdg : decode c.code g.pc = .ok (.invokestatic index, 3))
    (hpre : ∀ vm₁, s.WarmedH vm₁ → Pre ⟨T.setVm vm₁, locs, cells, slots⟩ argsL.toArray) :
    ∃ (v : Option Value) (vm₁ : Vm) (B : Pt), s.WarmedH vm₁ ∧ Stand p l e R s m args below meth c B.U B.locs B.cells B.slots ∧ Post ⟨T.setVm vm₁, locs, cells, slots⟩ argsL.toArray v B ∧
      ∀ target, Steps p.tables e below (B.U.setTop { g with pc := g.pc + 3, stack := v.toList ++ rest }) target → Steps p.tables e below (T.setTop g) target := by
  obtain ⟨mk, methM, cM, hnamed, hmethM, -, -, -, -, -, -, hsigM⟩ := Cond.codeWith_spec hcode
  have hstatic : methM.isStatic = true := Cond.static_spec hnamed hmethM hstat
  obtain ⟨kP, hkP, -⟩ := className_of_methodNamed hnamed
  have hinitP : kP.init = .initialized := Cond.initialized_spec (findClass_of_methodNamed hnamed) hkP hinit
  obtain ⟨vm₁, X₁, hstep₁⟩ := X.invokestatic hexec hown hlink hnamed hmethM hstatic hkP hinitP hy (g := g) hg (argsL := argsL) (rest := rest) (hlen _ hsigM) hstack hdg
  obtain ⟨v, B, X', hpost, hsteps⟩ := hK m meth c ⟨T.setVm vm₁, locs, cells, slots⟩ { g with stack := rest } (.invokestatic index) mk argsL.toArray X₁ hg hsize hdg hW (X₁.named hnamed) (hpre vm₁ X₁.warmed)
  exact ⟨v, vm₁, B, X₁.warmed, X', hpost, fun target h => hstep₁ _ fun acts => by rw [doInvoke_state]; exact hsteps.trans h⟩
theorem q_runSW (S0 : CallFix p m c cc nL s args TB own) (hM : Met l y (wlW y bytes maxL ret hh) rm Pc Qc mc ms free) (k : Csw y bytes maxL ret hh n) (hl : Cond.methodLink own index y ∈ TB) (hrc : rm.cells = mc) (hrs : rm.slots = ms) (hR : rm.frames + 1 ≤ R.frames ∧ 8 + (maxL + 11) + rm.locals ≤ R.locals) (hp : PreS s H Pc As)
    (hn : As.length = n) (hsize : ls.size = nL) (hst : st0 = As.reverse ++ rest) (hW : (rest.map fun v => v.category).sum ≤ 8) (hdg : decode cc pc = .ok (.invokestatic index, 3)) (hf : cells + mc ≤ R.cells ∧ slots + ms ≤ R.slots) :
    va_Run p l e R s m args below meth c H locs cells slots mc ms (F0 m pc ls st0) rest (Qc As.toArray) free := by
  obtain ⟨k1, k2, k3, k4, k5, k6⟩ := k
  obtain ⟨hx, hb, hml, ho, hts⟩ := S0
  have hin : ∀ w ∈ wlW y bytes maxL ret hh, w ∈ TB := fun w hw => (List.mem_cons.mp hw).elim (fun e => e ▸ k3) id
  have hK : Back l R p e below s args y 3 8 (PreOf R mc ms Pc) (PostOf Qc mc ms free) := va_backW (bytes := bytes) (maxL := maxL) (ret := ret) (hh := hh) hM hp.1 hrc hrs hR.1 hR.2 (pay_in hts (TB_in hin)) List.mem_cons_self (fun a' U hW => word_at hW (TB_good k2) (hts _ k2))
  intro T hT X
  obtain ⟨v, vm₁, ⟨U', l2, c2, s2⟩, hW₁, X', ⟨g', mk, t, L, e1, e2, hq, h1, hL, h2, h3⟩, st⟩ := callSW X hx (bytes := bytes) (maxL := maxL) (ret := ret) (hh := hh) ho (hts _ hl) (hts _ k1) (hts _ k2) (hts _ k3) ⟨k4, k5⟩ hK (g := F0 m pc ls st0) rfl (hsize.trans hml.symm) (argsL := As) (rest := rest) (fun sig h => by rw [h] at k6; exact hn.trans (Option.some.inj k6).symm) hst (lv_room (pc := pc) (ls := ls) (rest := st0) hW) (by rw [hb]; exact hdg)
    (fun vm₁ hW₁ => ⟨hf.1, hf.2, hp.2 (T.setVm vm₁) hT hW₁⟩)
  dsimp only [Pt.U, Pt.locs, Pt.cells, Pt.slots] at X' e1 e2 h1 h2 h3 st
  subst h1; subst h2; subst h3
  exact ⟨v, (T.setVm vm₁).calling g' mk As.toArray, t, U', L, hT, X', hL, e1, e2, hq, st⟩
theorem Cg.ofW {S : Type} {v : S → Option Value} {ws' : S → va_W} {post : S → Prop} (hy : plainName y.cls = true) (hlen : (lg_sl av).length ≤ maxL)
    (body : ∀ (p : Program) (e : Env) (s : State) (m : MethodId) (below : List Frame) (meth : Method) (c : Code) (ls : Array Slot), CallFix p m c cc maxL s av.toArray TB y.cls → meth.sig.returnType = ret → meth.locks = false → lv_has ls maxL (lv_args 0 av) → Lv D cl tys (qIn ws) s.heap ws s s.heap [] →
      W p l e rm s m av.toArray below meth c s.heap [] 0 0 (MQ below (Gh D cl ws v ws' post) av.toArray s 0 0 (qIn ws)) (F0 m 0 ls [])) : Cg l y (wlW y cc maxL ret hh) rm D cl tys av ws v ws' post := by
  refine va_MetW (cc := cc) (maxL := maxL) (ret := ret) (hh := hh) hy rfl ?_
  intro p e s m args below meth c s₁ B hml hv
  obtain ⟨rfl, hP, hK, hD⟩ := hv
  have hl := lv_entry av (n := maxL) hlen
  rw [lg_entry_eq]
  exact body p e s m below meth c _ ⟨B.exec, B.bytes, hml, findClass_of_methodNamed B.named, fun w hw => atoms_spec (ws := wlW y cc maxL ret hh) B.pre w (List.mem_cons_of_mem _ hw)⟩ B.returns B.notSynchronized hl ⟨hP, hK, ⟨hD.1, fun k q hk => ⟨k, q.2, hk⟩⟩, va_S.rf⟩
end QSW
/-! what a throw asks, wherever the start's cells stand -/
def NC (X Y : String) (U : State) : Prop := ∀ A : Array Value, (Cond.not (.castable X Y)).before A U = true
theorem NC.warm {X Y : String} {s U : State} (hW : s.WarmedH U.vm) (h : NC X Y s) : NC X Y U := by
  intro A
  have h1 := h A
  have e1 : U.vm.findClass X = s.vm.findClass X := hW.alike.findClass X _
  have e2 : U.vm.findClass Y = s.vm.findClass Y := hW.alike.findClass Y _
  simp only [Cond.before, Cond.holds, Cond.value, e1, e2, hW.alike.assignable] at h1 ⊢
  exact h1
abbrev X1 : String := "java/lang/IndexOutOfBoundsException"
abbrev X2 : String := "java/lang/IllegalArgumentException"
abbrev X3 : String := "java/lang/IllegalStateException"
def own_ok (ic : Nat) (X : String) : Prop := (Bundle.ownAtoms "CheriCore" ic X exN).all Cond.ridesK = true
theorem own_1 : own_ok 58 X1 := by unfold own_ok; decide +kernel
theorem own_2 : own_ok 95 X2 := by unfold own_ok; decide +kernel
theorem own_3 : own_ok 104 X3 := by unfold own_ok; decide +kernel
theorem TW.moved {ic ix : Nat} {X tx : String} {s U : State} (ho : own_ok ic X) (hW : s.WarmedH U.vm) (hh : ∀ q : Nat, q < s.heap.size → U.heap[q]? = s.heap[q]?) (h : TW ic X ix tx s) : TW ic X ix tx U := by
  obtain ⟨h1, q, hq⟩ := h
  refine ⟨fun A => ?_, q, hq.warm hW⟩
  refine Jvm.Free.rideK_all (a := A) hW (fun ad cell hc _ => ?_) ho (h1 A)
  rw [hh ad (Array.getElem?_eq_some_iff.mp hc).1]
  exact hc
theorem TW.cast {ic ix : Nat} {X tx : String} {U : State} (h : TW ic X ix tx U) (A : Array Value) : (Cond.castable X X).before A U = true :=
  h.1 A _ (List.mem_append_right _ (List.mem_cons_of_mem _ (List.mem_cons_of_mem _ List.mem_cons_self)))
def ZA (U : State) : Prop := TW 58 X1 56 "no such word" U ∧ TW 58 X1 85 "no such register" U ∧ TW 95 X2 93 "no such root" U ∧ TW 104 X3 102 "there are eight roots" U ∧ TW 95 X2 131 "no such number of steps" U ∧ TW 104 X3 137 "the machine is halted" U ∧ TW 95 X2 161 "nothing of that number is told" U ∧ TW 95 X2 184 "nothing of that number is counted" U ∧ TW 95 X2 186 "beyond the space of addresses" U ∧ NC X2 X1 U ∧ NC X3 X1 U ∧ NC X3 X2 U
theorem ZA.word {U : State} (h : ZA U) : TW 58 X1 56 "no such word" U := h.1
theorem ZA.reg {U : State} (h : ZA U) : TW 58 X1 85 "no such register" U := h.2.1
theorem ZA.root {U : State} (h : ZA U) : TW 95 X2 93 "no such root" U := h.2.2.1
theorem ZA.eight {U : State} (h : ZA U) : TW 104 X3 102 "there are eight roots" U := h.2.2.2.1
theorem ZA.steps {U : State} (h : ZA U) : TW 95 X2 131 "no such number of steps" U := h.2.2.2.2.1
theorem ZA.halted {U : State} (h : ZA U) : TW 104 X3 137 "the machine is halted" U := h.2.2.2.2.2.1
theorem ZA.told {U : State} (h : ZA U) : TW 95 X2 161 "nothing of that number is told" U := h.2.2.2.2.2.2.1
theorem ZA.counted {U : State} (h : ZA U) : TW 95 X2 184 "nothing of that number is counted" U := h.2.2.2.2.2.2.2.1
theorem ZA.beyond {U : State} (h : ZA U) : TW 95 X2 186 "beyond the space of addresses" U := h.2.2.2.2.2.2.2.2.1
theorem ZA.n21 {U : State} (h : ZA U) : NC X2 X1 U := h.2.2.2.2.2.2.2.2.2.1
theorem ZA.n31 {U : State} (h : ZA U) : NC X3 X1 U := h.2.2.2.2.2.2.2.2.2.2.1
theorem ZA.n32 {U : State} (h : ZA U) : NC X3 X2 U := h.2.2.2.2.2.2.2.2.2.2.2
theorem ZA.moved {s U : State} (hW : s.WarmedH U.vm) (hh : ∀ q : Nat, q < s.heap.size → U.heap[q]? = s.heap[q]?) (h : ZA s) : ZA U :=
  ⟨h.word.moved own_1 hW hh, h.reg.moved own_1 hW hh, h.root.moved own_2 hW hh, h.eight.moved own_3 hW hh, h.steps.moved own_2 hW hh, h.halted.moved own_3 hW hh, h.told.moved own_2 hW hh, h.counted.moved own_2 hW hh, h.beyond.moved own_2 hW hh, h.n21.warm hW, h.n31.warm hW, h.n32.warm hW⟩
/-! a wrapper that answers a number for what was thrown -/
def PcX (D : va_G) (cl : List vw_C) (tys : List (ClassId × FieldType)) (av : List Value) (ws : va_W) : Array Value → State → Prop := fun v U => Pr D cl tys av ws v U ∧ NW U ∧ ZA U
def QKx (k : Int32) : Array Value → State → Outcome → State → Prop := fun _ st o t => o = .returned (some (.int k)) ∧ st.heap.size ≤ t.heap.size ∧ ∀ q : Nat, q < st.heap.size → t.heap[q]? = st.heap[q]?
def Cx (l : Launch) (y : MethodName) (wl0 : List Cond) (rm : Room) (D : va_G) (cl : List vw_C) (tys : List (ClassId × FieldType)) (av : List Value) (ws : va_W) (k : Int32) : Prop :=
  Met l y wl0 rm (PcX D cl tys av ws) (QKx k) 1 6 (fun _ => False)
theorem ZA.same {U V : State} (e1 : V.vm = U.vm) (e2 : V.heap = U.heap) (h : ZA U) : ZA V := h.moved (by rw [e1]; exact State.WarmedH.refl U) (fun q _ => by rw [e2])
theorem PcX.blind {D : va_G} {cl : List vw_C} {tys : List (ClassId × FieldType)} {av : List Value} {ws : va_W} : FrameBlind (PcX D cl tys av ws) :=
  fun a U g mk q => ⟨Pr.blind a U g mk q.1, NW.same (u := U) (U := U.calling g mk a) rfl q.2.1, ZA.same (U := U) (V := U.calling g mk a) rfl rfl q.2.2⟩
/-- the clauses, one by one -/
theorem tab_cons {L : List ExceptionTableEntry} {q : Nat × Nat × Nat × Nat} {r : List (Nat × Nat × Nat × Nat)} (h : L.map (fun h => (h.startPc, h.endPc, h.handlerPc, h.catchType)) = q :: r) : ∃ z L', L = z :: L' ∧ z.startPc = q.1 ∧ z.endPc = q.2.1 ∧ z.handlerPc = q.2.2.1 ∧ z.catchType = q.2.2.2 ∧ L'.map (fun h => (h.startPc, h.endPc, h.handlerPc, h.catchType)) = r := by
  cases L with
  | nil => cases h
  | cons z L' =>
    rw [List.map_cons] at h
    injection h with h1 h2
    subst h1
    exact ⟨z, L', rfl, rfl, rfl, rfl, rfl, h2⟩
theorem tab_cov {z : ExceptionTableEntry} {a b pc : Nat} (h1 : z.startPc = a) (h2 : z.endPc = b) (h : (decide (a ≤ pc) && decide (pc < b)) = true) : covers z pc = true := by
  unfold covers
  rw [h1, h2]
  exact h
section QX2
variable {p : Program} {l : Launch} {e : Env} {R : Room} {s : State} {m : MethodId} {args : Array Value} {below : List Frame} {meth : Method} {c : Code} {H : Heap} {locs : List Loc} {cells slots : Nat} {Q : State → Prop}
variable {cc : ByteArray} {pc nL : Nat} {ls : Array Slot} {rest st0 : List Value} {D : va_G} {cl : List vw_C} {A : Nat → Prop} {tys : List (ClassId × FieldType)} {ws Y : va_W} {H0 : Heap} {own : String} {Ts : List Cond}
variable {y : MethodName} {bytes : ByteArray} {maxL n index : Nat} {ret : Option FieldType} {hh : List (Nat × Nat × Nat × Nat)} {rm : Room} {As av : List Value} {k : Int32}
theorem Cx.of (hy : plainName y.cls = true) (hlen : (lg_sl av).length ≤ maxL)
    (body : ∀ (p : Program) (e : Env) (s : State) (m : MethodId) (below : List Frame) (meth : Method) (c : Code) (ls : Array Slot), CallFix p m c cc maxL s av.toArray TB y.cls → c.exceptionTable.toList.map (fun h => (h.startPc, h.endPc, h.handlerPc, h.catchType)) = hh → meth.sig.returnType = some .int → meth.locks = false → lv_has ls maxL (lv_args 0 av) → NW s → ZA s → Lv D cl tys (qIn ws) s.heap ws s s.heap [] →
      W p l e rm s m av.toArray below meth c s.heap [] 0 0 (MQ below (QKx k) av.toArray s 1 6 (fun _ => False)) (F0 m 0 ls [])) : Cx l y (wlW y cc maxL (some .int) hh) rm D cl tys av ws k := by
  refine va_MetW (cc := cc) (maxL := maxL) (ret := some .int) (hh := hh) hy rfl ?_
  intro p e s m args below meth c s₁ B hml hv
  obtain ⟨⟨rfl, hP, hK, hD⟩, hN, hZ⟩ := hv
  have hl := lv_entry av (n := maxL) hlen
  rw [lg_entry_eq]
  have hts0 := atoms_spec (ws := wlW y cc maxL (some .int) hh) B.pre
  obtain ⟨m9, meth2, c2, hn9, h1, h2, -, -, h5, -⟩ := Cond.codeWith_spec (hts0 _ List.mem_cons_self)
  have e0 : m9 = m := Option.some.inj (hn9.symm.trans B.named)
  subst e0
  have e1 : meth2 = meth := Option.some.inj (h1.symm.trans B.method)
  subst e1
  have e2 : c2 = c := Option.some.inj (h2.symm.trans (Stand.of_body B).code)
  subst e2
  exact body p e s m9 below meth2 c2 _ ⟨B.exec, B.bytes, hml, findClass_of_methodNamed B.named, fun w hw => hts0 w (List.mem_cons_of_mem _ hw)⟩ h5 B.returns B.notSynchronized hl hN hZ ⟨hP, hK, ⟨hD.1, fun k q hk => ⟨k, q.2, hk⟩⟩, va_S.rf⟩
theorem qx_ret {x : Int32} (S0 : CallFix p m c cc nL s args Ts own) (hr : meth.sig.returnType = some .int) (hlk : meth.locks = false) (hsz : s.heap.size ≤ H.size) (hold : ∀ q : Nat, q < s.heap.size → H[q]? = s.heap[q]?) (hdg : decode cc pc = .ok (.ireturn, 1)) :
    W p l e R s m args below meth c H [] cells slots (MQ below (QKx x) args s cells slots (fun _ => False)) (F0 m pc ls [.int x]) :=
  W.zret S0.1 S0.2.1 hr rfl (fun t ht hW => ⟨rfl, by rw [ht]; exact hsz, fun q h => by rw [ht]; exact hold q h⟩) (fun q h => by cases h) hdg hlk
/-- behind such a call -/
theorem q_cx {a9 : Array Value} (hr : va_Run p l e R s m args below meth c H locs cells slots 1 6 (F0 m pc ls st0) rest (QKx k a9) (fun _ => False)) (hw : Lv D cl tys A H0 ws s H locs)
    (kk : ∀ (H1 : Heap), Lv D cl tys A H0 ws s H1 locs → W p l e R s m args below meth c H1 locs (cells + 1) (slots + 6) Q (F0 m (pc + 3) ls (.int k :: rest))) : W p l e R s m args below meth c H locs cells slots Q (F0 m pc ls st0) := by
  intro T hT X
  obtain ⟨v', st₀, t, T', L, h0, X', hL, e1, e2, ⟨hv, hz, hh⟩, st⟩ := hr T hT X
  cases hv
  rw [h0] at hz hh
  obtain ⟨t2, a1, b1⟩ := kk t.heap (hw.old hh hz) T' e1 (Stand.forget X' (fun q h => (hL q h).elim))
  exact ⟨t2, st t2 a1, b1⟩
theorem Lv.preX {av : List Value} {Y : va_W} (hw : Lv D cl tys A H0 (ws ++ Y) s H locs) (hN : NW s) (hZ : ∀ U : State, U.heap = H → s.WarmedH U.vm → ZA U) : PreS s H (PcX D cl tys av ws) av :=
  ⟨PcX.blind, fun U hU hW => ⟨hw.left.pre U hU hW, NW.warm hW hN, hZ U hU hW⟩⟩
end QX2
/-! The two machines, by what they hold. -/
abbrev NUL : Cap := (false, 0, 1000194)
def KI (ti : Nat → ClassId) (co : Nat) (s : KS) (st : Int32) (m : Nat) (wc : va_W) : Prop :=
  ∃ (ad : Nat → Nat) (u : MT) (pi ex de : Nat) (xi xb di db fi fb : Int32) (ob reg : Nat → Nat) (kq kp : Int32 × Bool × Bool × Int32 × Int64), wc = CW ad ti u pi ex de xi xb di db fi fb ob reg kq s.ca s.va s.fv s.R ++ KT ti co ob reg kp (nI m) st s.tr s.ha ∧ MIt u s.w s.g ∧ PF di db s.w ∧ PF fi fb s.w
def RI (ti : Nat → ClassId) (mo : Nat) (s : KS) (st : Int32) (m : Nat) (th : Int32) (wr : va_W) : Prop :=
  ∃ (am : Nat → Nat) (Q : Nat → Cap) (rb rt : Nat → Int64) (rp : Nat → Int32) (pk : Int32) (xx : Bool) (rd : Int64) (to : Int32), wr = RMW mo am ti Q s.w s.g rb rt rp (nI m) s.ca s.va st s.tr th s.ha pk xx rd to ∧ ag Q s.R ∧ Q 0 = NUL ∧ RT s.R rb rt rp m
theorem KI.co {ti : Nat → ClassId} {co : Nat} {s : KS} {st : Int32} {m : Nat} {wc : va_W} (h : KI ti co s st m wc) : ∃ fs, wc[69]? = some (co, .inr (10, fs)) := by
  obtain ⟨ad, u, pi, ex, de, xi, xb, di, db, fi, fb, ob, reg, kq, kp, rfl, -⟩ := h
  exact ⟨_, by rw [List.getElem?_append_right (by rw [CW_69]; exact Nat.le_refl _), CW_69]; rfl⟩
theorem RI.mo {ti : Nat → ClassId} {mo : Nat} {s : KS} {st : Int32} {m : Nat} {th : Int32} {wr : va_W} (h : RI ti mo s st m th wr) : ∃ fs, wr[0]? = some (mo, .inr (11, fs)) := by
  obtain ⟨am, Q, rb, rt, rp, pk, xx, rd, to, rfl, -⟩ := h
  exact ⟨_, rfl⟩
theorem KI.g4 {ti : Nat → ClassId} {co : Nat} {s : KS} {st : Int32} {m : Nat} {wc : va_W} (h : KI ti co s st m wc) : ∀ n, n < 512 → ∃ k, k < 16 ∧ s.g n = nI k := by
  obtain ⟨ad, u, pi, ex, de, xi, xb, di, db, fi, fb, ob, reg, kq, kp, -, hM, -⟩ := h
  exact hM.2.2.2.2.1
theorem kw_pm {co : Nat} {ti : Nat → ClassId} {ad ob reg : Nat → Nat} {pi ex de : Nat} {u u' : MT} {xi xb di db fi fb xi' xb' di' db' fi' fb' : Int32} {kq kq' kp kp' : Int32 × Bool × Bool × Int32 × Int64} {ca va fv ca' va' fv' rc st tr rc' st' tr' : Int32} {ha ha' : Bool} {R R' : Nat → Cap} (b : Bool) :
    ((CW ad ti u' pi (cond b de ex) (cond b ex de) xi' xb' di' db' fi' fb' ob reg kq' ca' va' fv' R' ++ KT ti co ob reg kp' rc' st' tr' ha').map (fun q => q.1)).Perm ((CW ad ti u pi ex de xi xb di db fi fb ob reg kq ca va fv R ++ KT ti co ob reg kp rc st tr ha).map (fun q => q.1)) := by
  rw [List.map_append, List.map_append, CW_fst, CW_fst]
  refine List.Perm.append ?_ (List.Perm.refl _)
  refine List.Perm.append_right _ ?_
  cases b
  · exact List.Perm.refl _
  · show List.Perm ([ad 0, ad 1, ad 2, ad 3, ad 4, ad 5, ad 6, ad 7, ad 8, ad 9, ad 10, ad 11, ad 12, pi] ++ (de :: ex :: [ob 0, ob 1, ob 2, ob 3, ob 4])) ([ad 0, ad 1, ad 2, ad 3, ad 4, ad 5, ad 6, ad 7, ad 8, ad 9, ad 10, ad 11, ad 12, pi] ++ (ex :: de :: [ob 0, ob 1, ob 2, ob 3, ob 4]))
    exact List.Perm.append_left _ (List.Perm.swap _ _ _)
section CK1
variable (l : Launch) (D : va_G) {ti : Nat → ClassId} {co : Nat} {s : KS} {st : Int32} {m : Nat} {wc : va_W}
theorem ck_word (h : KI ti co s st m wc) (i : Nat) (hi : i < 4096) (x : Int32) : CK l y_Cor_word (wl y_Cor_word b_Cor_word 4 (some .int)) (rmL 3) D ti [.ref co, .int (nI i), .int x] wc (KI ti co (s.fv, s.ca, s.va, s.R, upd s.w i x, gOff s.g i, s.tr, s.ha) st m) (some (.int (s.w i))) := by
  obtain ⟨ad, u, pi, ex, de, xi, xb, di, db, fi, fb, ob, reg, kq, kp, rfl, hM, hD, hF⟩ := h
  exact (c_Cor_word l D ti ad u pi ex de xi xb di db fi fb ob reg kq s.ca s.va s.fv s.R co kp (nI m) st s.tr s.ha s.w s.g hM hD hF i hi x).toK (fun z hp => ⟨rfl, ⟨ad, z, pi, ex, de, xi, xb, _, db, _, fb, ob, reg, kq, kp, rfl, hp.1, hp.2.1, hp.2.2⟩, kw_pm false⟩)
theorem ck_memory (h : KI ti co s st m wc) (i : Nat) (hi : i < 4096) : CK l y_Cor_memory (wl y_Cor_memory b_Cor_memory 2 (some .int)) (rmL 3) D ti [.ref co, .int (nI i)] wc (KI ti co s st m) (some (.int (s.w i))) := by
  have h0 := h
  obtain ⟨ad, u, pi, ex, de, xi, xb, di, db, fi, fb, ob, reg, kq, kp, rfl, hM, hD, hF⟩ := h
  exact (c_Cor_memory l D ti ad u pi ex de xi xb di db fi fb ob reg kq s.ca s.va s.fv s.R co kp (nI m) st s.tr s.ha s.w s.g hM i hi).toK h0
theorem ck_tag (h : KI ti co s st m wc) (i : Nat) (hi : i < 4096) : CK l y_Cor_tag (wl y_Cor_tag b_Cor_tag 2 (some .boolean)) (rmL 3) D ti [.ref co, .int (nI i)] wc (KI ti co s st m) (some (.int (jb (gTag s.g i)))) := by
  have h0 := h
  obtain ⟨ad, u, pi, ex, de, xi, xb, di, db, fi, fb, ob, reg, kq, kp, rfl, hM, hD, hF⟩ := h
  exact (c_Cor_tag l D ti ad u pi ex de xi xb di db fi fb ob reg kq s.ca s.va s.fv s.R co kp (nI m) st s.tr s.ha s.w s.g hM i hi).toK h0
theorem ck_check (h : KI ti co s st m wc) : CK l y_Cor_check (wl y_Cor_check b_Cor_check 1 (some .int)) (rmL 3) D ti [.ref co] wc (KI ti co s st m) (some (.int 0)) := by
  have h0 := h
  obtain ⟨ad, u, pi, ex, de, xi, xb, di, db, fi, fb, ob, reg, kq, kp, rfl, hM, hD, hF⟩ := h
  exact (c_Cor_check l D ti ad u pi ex de xi xb di db fi fb ob reg kq s.ca s.va s.fv s.R co kp (nI m) st s.tr s.ha s.w s.g hM).toK h0
theorem ck_count (h : KI ti co s st m wc) (x : Int32) (h7 : up7 x) : CK l y_Cor_count (wl y_Cor_count b_Cor_count 2 (some .int)) (rmL 3) D ti [.ref co, .int x] wc (KI ti co s st m) (some (.int (cV s.ha s.ca s.va st s.tr (nI m) (gSum s.g 512) x))) := by
  have h0 := h
  obtain ⟨ad, u, pi, ex, de, xi, xb, di, db, fi, fb, ob, reg, kq, kp, rfl, hM, hD, hF⟩ := h
  exact (c_Cor_count l D ti ad u pi ex de xi xb di db fi fb ob reg kq s.ca s.va s.fv s.R co kp (nI m) st s.tr s.ha s.w s.g hM x h7).toK h0
theorem ck_told (h : KI ti co s st m wc) (r : Nat) (hr : r < 37) (x : Int32) (h7 : up7 x) : CK l y_Cor_told (wl y_Cor_told b_Cor_told 4 (some .int)) (rmL 2) D ti [.ref co, .int (nI r), .int x] wc (KI ti co s st m) (some (.int (tV (s.R r) x))) := by
  have h0 := h
  obtain ⟨ad, u, pi, ex, de, xi, xb, di, db, fi, fb, ob, reg, kq, kp, rfl, hM, hD, hF⟩ := h
  exact (c_Cor_told l D ti ad u pi ex de xi xb di db fi fb ob reg kq s.ca s.va s.fv s.R co kp (nI m) st s.tr s.ha r hr x h7).toK h0
theorem ck_put (h : KI ti co s st m wc) (r : Nat) (h1 : 1 ≤ r) (h32 : r < 32) (a me : Int32) : CK l y_Cor_put (wl y_Cor_put b_Cor_put 4 none) (rmL 3) D ti [.ref co, .int (nI r), .int a, .int me] wc (KI ti co (s.fv, s.ca, s.va, va_up s.R r (false, a, me ^^^ 1000194), s.w, s.g, s.tr, s.ha) st m) none := by
  obtain ⟨ad, u, pi, ex, de, xi, xb, di, db, fi, fb, ob, reg, kq, kp, rfl, hM, hD, hF⟩ := h
  exact (c_Cor_put l D ti ad u pi ex de xi xb di db fi fb ob reg kq s.ca s.va s.fv s.R co kp (nI m) st s.tr s.ha r h1 h32 a me).toK (fun _ _ => ⟨rfl, ⟨ad, u, pi, ex, de, xi, xb, di, db, fi, fb, ob, reg, kq, kp, rfl, hM, hD, hF⟩, kw_pm false⟩)
theorem ck_pack (h : KI ti co s st m wc) (b : Int32) (n : Int64) (hf : fitS b n = true) : CK l y_Cor_pack (wl y_Cor_pack b_Cor_pack 6 (some .int)) (rmL 3) D ti [.ref co, .int b, .long n] wc (KI ti co s st m) (some (.int (kBits (cLow b) (cLow b + n) ||| (if kEx (cLow b) (cLow b + n) = false then 0 else 32768)))) := by
  obtain ⟨ad, u, pi, ex, de, xi, xb, di, db, fi, fb, ob, reg, kq, kp, rfl, hM, hD, hF⟩ := h
  exact (c_Cor_pack l D ti ad u pi ex de xi xb di db fi fb ob reg kq s.ca s.va s.fv s.R co kp (nI m) st s.tr s.ha b n hf).toK (fun _ _ => ⟨rfl, ⟨ad, u, pi, ex, de, xi, xb, di, db, fi, fb, ob, reg, kq, _, rfl, hM, hD, hF⟩, kw_pm false⟩)
theorem ck_root (h : KI ti co s st m wc) (hm : m < 8) (r : Nat) (h1 : 1 ≤ r) (h37 : r < 37) (b n p : Int32) (hf : fitS b n.toInt64 = true) (hp0 : ¬ p < 0) (hp1 : p ≤ 4095) : CK l y_Cor_root (wl y_Cor_root b_Cor_root 8 (some .int)) (rmL 3) D ti [.ref co, .int (nI r), .int b, .int n, .int p] wc (KI ti co (s.fv, s.ca, s.va, rrR s.R r m b n p, s.w, s.g, s.tr, s.ha) st (m + 1)) (some (.int (cbase (rtM b n p) b).toInt32)) := by
  obtain ⟨ad, u, pi, ex, de, xi, xb, di, db, fi, fb, ob, reg, kq, kp, rfl, hM, hD, hF⟩ := h
  exact (c_Cor_root l D ti ad u pi ex de xi xb di db fi fb ob reg kq s.ca s.va s.fv s.R co kp m st s.tr s.ha hm r h1 h37 b n p hf hp0 hp1).toK (fun _ _ => ⟨rfl, ⟨ad, u, pi, ex, de, xi, xb, di, db, fi, fb, ob, reg, kq, _, rfl, hM, hD, hF⟩, kw_pm false⟩)
theorem ck_bound (h : KI ti co s st m wc) (me a : Int32) (tp : Bool) : CK l y_Cor_bound (wl y_Cor_bound b_Cor_bound 4 (some .long)) (rmL 3) D ti [.ref co, .int me, .int a, .int (jb tp)] wc (KI ti co (s.fv, s.ca, s.va, va_up s.R 39 (false, a, me &&& 32767), s.w, s.g, s.tr, s.ha) st m) (some (.long (if tp = false then cbase (me &&& 32767) a else ctop (me &&& 32767) a))) := by
  obtain ⟨ad, u, pi, ex, de, xi, xb, di, db, fi, fb, ob, reg, kq, kp, rfl, hM, hD, hF⟩ := h
  exact (c_Cor_bound l D ti ad u pi ex de xi xb di db fi fb ob reg kq s.ca s.va s.fv s.R co kp (nI m) st s.tr s.ha me a tp).toK (fun _ _ => ⟨rfl, ⟨ad, u, pi, ex, de, xi, xb, di, db, fi, fb, ob, reg, kq, kp, rfl, hM, hD, hF⟩, kw_pm false⟩)
theorem ck_grown (h : KI ti co s st m wc) (hm : m ≤ 8) : CK l y_Cor_grown (wl y_Cor_grown b_Cor_grown 3 (some .int)) (rmL 3) D ti [.ref co] wc (fun z => ∃ c, KI ti co (s.fv, s.ca, s.va, va_up s.R 39 c, s.w, s.g, s.tr, s.ha) st m z) (some (.int (gr2 s.R m s.w s.g 2048))) := by
  obtain ⟨ad, u, pi, ex, de, xi, xb, di, db, fi, fb, ob, reg, kq, kp, rfl, hM, hD, hF⟩ := h
  exact (c_Cor_grown l D ti ad u pi ex de xi xb di db fi fb ob reg kq s.ca s.va s.fv s.R co kp m st s.tr s.ha hm s.w s.g hM).toK (fun z _ => ⟨rfl, ⟨z, ad, u, pi, ex, de, xi, xb, di, db, fi, fb, ob, reg, kq, kp, rfl, hM, hD, hF⟩, kw_pm false⟩)
theorem ck_run (h : KI ti co s st m wc) (hh : s.ha = false) (n : Nat) (h1 : 1 ≤ n) (h2 : n ≤ 10000) : CK l y_Cor_run (wl y_Cor_run b_Cor_run 3 (some .int)) (rmL 8) D ti [.ref co, .int (nI n)] wc (KI ti co (kIt n s).2 (st + nI (kIt n s).1) m) (some (.int (nI (kIt n s).1))) := by
  obtain ⟨fv, ca, va, R, w, g, tr, ha⟩ := s
  have hh : ha = false := hh
  subst hh
  obtain ⟨ad, u, pi, ex, de, xi, xb, di, db, fi, fb, ob, reg, kq, kp, rfl, hM, hD, hF⟩ := h
  exact (c_Cor_run l D ti ad u pi ex de xi xb di db fi fb ob reg kq ca va fv R co kp (nI m) st tr w g hM hD hF n h1 h2).toK (fun z hp => ⟨rfl, ⟨ad, z.1, pi, _, _, z.2.2.1, z.2.2.2.1, z.2.2.2.2.1, z.2.2.2.2.2.1, z.2.2.2.2.2.2.1, z.2.2.2.2.2.2.2.1, ob, reg, z.2.2.2.2.2.2.2.2, kp, rfl, hp.1, hp.2.1, hp.2.2⟩, kw_pm z.2.1⟩)
end CK1
/-! the reference -/
theorem rmw_pm {mo : Nat} {am : Nat → Nat} {ti : Nat → ClassId} {Q Q' : Nat → Cap} {w g w' g' : Nat → Int32} {rb rt rb' rt' : Nat → Int64} {rp rp' : Nat → Int32} {ro ca va st tr th ro' ca' va' st' tr' th' : Int32} {ha ha' : Bool} {pk pk' : Int32} {xx xx' : Bool} {rd rd' : Int64} {to to' : Int32} :
    ((RMW mo am ti Q' w' g' rb' rt' rp' ro' ca' va' st' tr' th' ha' pk' xx' rd' to').map (fun q => q.1)).Perm ((RMW mo am ti Q w g rb rt rp ro ca va st tr th ha pk xx rd to).map (fun q => q.1)) := List.Perm.refl _
section CK2
variable (l : Launch) (D : va_G) {ti : Nat → ClassId} {mo : Nat} {s : KS} {st : Int32} {m : Nat} {th : Int32} {wr : va_W}
theorem rk_thrown (h : RI ti mo s st m th wr) : CK l y_Mod_thrown (wl y_Mod_thrown b_Mod_thrown 1 (some .int)) (rmL 0) D ti [.ref mo] wr (RI ti mo s st m th) (some (.int th)) := by
  have h0 := h
  obtain ⟨am, Q, rb, rt, rp, pk, xx, rd, to, rfl, hQ, hn, hT⟩ := h
  exact (c_Mod_thrown l D ti mo am Q s.w s.g rb rt rp (nI m) s.ca s.va st s.tr th s.ha pk xx rd to).toK h0
theorem rk_word (h : RI ti mo s st m th wr) (i : Nat) (hi : i < 4096) (x : Int32) : CK l y_Mod_word (wl y_Mod_word b_Mod_word 4 (some .int)) (rmL 1) D ti [.ref mo, .int (nI i), .int x] wr (RI ti mo (s.fv, s.ca, s.va, s.R, upd s.w i x, gOff s.g i, s.tr, s.ha) st m 0) (some (.int (s.w i))) := by
  obtain ⟨am, Q, rb, rt, rp, pk, xx, rd, to, rfl, hQ, hn, hT⟩ := h
  exact (c_Mod_word l D ti mo am Q s.w s.g rb rt rp (nI m) s.ca s.va st s.tr th s.ha pk xx rd to i hi x).toK (fun _ _ => ⟨rfl, ⟨am, Q, rb, rt, rp, pk, xx, rd, to, rfl, hQ, hn, hT⟩, rmw_pm⟩)
theorem rk_wordX (h : RI ti mo s st m th wr) (i : Int32) (hb : isW i = false) (x : Int32) : CK l y_Mod_word (wl y_Mod_word b_Mod_word 4 (some .int)) (rmL 1) D ti [.ref mo, .int i, .int x] wr (RI ti mo s st m 1) (some (.int 0)) := by
  obtain ⟨am, Q, rb, rt, rp, pk, xx, rd, to, rfl, hQ, hn, hT⟩ := h
  exact (c_Mod_wordX l D ti mo am Q s.w s.g rb rt rp (nI m) s.ca s.va st s.tr th s.ha pk xx rd to i hb x).toK (fun _ _ => ⟨rfl, ⟨am, Q, rb, rt, rp, pk, xx, rd, to, rfl, hQ, hn, hT⟩, rmw_pm⟩)
theorem rk_memory (h : RI ti mo s st m th wr) (i : Nat) (hi : i < 4096) : CK l y_Mod_memory (wl y_Mod_memory b_Mod_memory 2 (some .int)) (rmL 1) D ti [.ref mo, .int (nI i)] wr (RI ti mo s st m 0) (some (.int (s.w i))) := by
  obtain ⟨am, Q, rb, rt, rp, pk, xx, rd, to, rfl, hQ, hn, hT⟩ := h
  exact (c_Mod_memory l D ti mo am Q s.w s.g rb rt rp (nI m) s.ca s.va st s.tr th s.ha pk xx rd to i hi).toK (fun _ _ => ⟨rfl, ⟨am, Q, rb, rt, rp, pk, xx, rd, to, rfl, hQ, hn, hT⟩, rmw_pm⟩)
theorem rk_memoryX (h : RI ti mo s st m th wr) (i : Int32) (hb : isW i = false) : CK l y_Mod_memory (wl y_Mod_memory b_Mod_memory 2 (some .int)) (rmL 1) D ti [.ref mo, .int i] wr (RI ti mo s st m 1) (some (.int 0)) := by
  obtain ⟨am, Q, rb, rt, rp, pk, xx, rd, to, rfl, hQ, hn, hT⟩ := h
  exact (c_Mod_memoryX l D ti mo am Q s.w s.g rb rt rp (nI m) s.ca s.va st s.tr th s.ha pk xx rd to i hb).toK (fun _ _ => ⟨rfl, ⟨am, Q, rb, rt, rp, pk, xx, rd, to, rfl, hQ, hn, hT⟩, rmw_pm⟩)
theorem rk_tag (h : RI ti mo s st m th wr) (i : Nat) (hi : i < 4096) : CK l y_Mod_tag (wl y_Mod_tag b_Mod_tag 2 (some .boolean)) (rmL 1) D ti [.ref mo, .int (nI i)] wr (RI ti mo s st m 0) (some (.int (jb (gTag s.g i)))) := by
  obtain ⟨am, Q, rb, rt, rp, pk, xx, rd, to, rfl, hQ, hn, hT⟩ := h
  exact (c_Mod_tag l D ti mo am Q s.w s.g rb rt rp (nI m) s.ca s.va st s.tr th s.ha pk xx rd to i hi).toK (fun _ _ => ⟨rfl, ⟨am, Q, rb, rt, rp, pk, xx, rd, to, rfl, hQ, hn, hT⟩, rmw_pm⟩)
theorem rk_tagX (h : RI ti mo s st m th wr) (i : Int32) (hb : isW i = false) : CK l y_Mod_tag (wl y_Mod_tag b_Mod_tag 2 (some .boolean)) (rmL 1) D ti [.ref mo, .int i] wr (RI ti mo s st m 1) (some (.int (jb false))) := by
  obtain ⟨am, Q, rb, rt, rp, pk, xx, rd, to, rfl, hQ, hn, hT⟩ := h
  exact (c_Mod_tagX l D ti mo am Q s.w s.g rb rt rp (nI m) s.ca s.va st s.tr th s.ha pk xx rd to i hb).toK (fun _ _ => ⟨rfl, ⟨am, Q, rb, rt, rp, pk, xx, rd, to, rfl, hQ, hn, hT⟩, rmw_pm⟩)
theorem rk_put (h : RI ti mo s st m th wr) (r : Nat) (h1 : 1 ≤ r) (h32 : r < 32) (a me : Int32) : CK l y_Mod_put (wl y_Mod_put b_Mod_put 4 none) (rmL 1) D ti [.ref mo, .int (nI r), .int a, .int me] wr (RI ti mo (s.fv, s.ca, s.va, va_up s.R r (false, a, me ^^^ 1000194), s.w, s.g, s.tr, s.ha) st m 0) none := by
  obtain ⟨am, Q, rb, rt, rp, pk, xx, rd, to, rfl, hQ, hn, hT⟩ := h
  exact (c_Mod_put l D ti mo am Q s.w s.g rb rt rp (nI m) s.ca s.va st s.tr th s.ha pk xx rd to r h1 h32 a me).toK (fun _ _ => ⟨rfl, ⟨am, _, rb, rt, rp, pk, xx, rd, to, rfl, a_up hQ r _, by rw [va_up_ne Q _ (show 0 ≠ r by omega)]; exact hn, hT.kp (kp_up (kp_r _) (by omega) _)⟩, rmw_pm⟩)
theorem rk_putX (h : RI ti mo s st m th wr) (r : Int32) (hb : r < 1 ∨ 31 < r) (a me : Int32) : CK l y_Mod_put (wl y_Mod_put b_Mod_put 4 none) (rmL 1) D ti [.ref mo, .int r, .int a, .int me] wr (RI ti mo s st m 1) none := by
  obtain ⟨am, Q, rb, rt, rp, pk, xx, rd, to, rfl, hQ, hn, hT⟩ := h
  exact (c_Mod_putX l D ti mo am Q s.w s.g rb rt rp (nI m) s.ca s.va st s.tr th s.ha pk xx rd to r hb a me).toK (fun _ _ => ⟨rfl, ⟨am, Q, rb, rt, rp, pk, xx, rd, to, rfl, hQ, hn, hT⟩, rmw_pm⟩)
theorem rk_told (h : RI ti mo s st m th wr) (r : Nat) (hr : r < 37) (x : Int32) (h7 : up7 x) : CK l y_Mod_told (wl y_Mod_told b_Mod_told 5 (some .int)) (rmL 4) D ti [.ref mo, .int (nI r), .int x] wr (RI ti mo s st m 0) (some (.int (tV (s.R r) x))) := by
  obtain ⟨am, Q, rb, rt, rp, pk, xx, rd, to, rfl, hQ, hn, hT⟩ := h
  exact (c_Mod_told l D ti mo am Q s.w s.g rb rt rp (nI m) s.ca s.va st s.tr th s.ha pk xx rd to r hr x h7).toK (fun _ _ => ⟨by rw [hQ r hr], ⟨am, Q, rb, rt, rp, pk, xx, rd, to, rfl, hQ, hn, hT⟩, rmw_pm⟩)
theorem rk_toldX (h : RI ti mo s st m th wr) (r : Int32) (hb : r < 0 ∨ 37 ≤ r) (x : Int32) : CK l y_Mod_told (wl y_Mod_told b_Mod_told 5 (some .int)) (rmL 4) D ti [.ref mo, .int r, .int x] wr (RI ti mo s st m 1) (some (.int 0)) := by
  obtain ⟨am, Q, rb, rt, rp, pk, xx, rd, to, rfl, hQ, hn, hT⟩ := h
  exact (c_Mod_toldX l D ti mo am Q s.w s.g rb rt rp (nI m) s.ca s.va st s.tr th s.ha pk xx rd to r hb x).toK (fun _ _ => ⟨rfl, ⟨am, Q, rb, rt, rp, pk, xx, rd, to, rfl, hQ, hn, hT⟩, rmw_pm⟩)
theorem rk_toldY (h : RI ti mo s st m th wr) (r : Nat) (hr : r < 37) (x : Int32) (hb : x < 0 ∨ 6 < x) : CK l y_Mod_told (wl y_Mod_told b_Mod_told 5 (some .int)) (rmL 4) D ti [.ref mo, .int (nI r), .int x] wr (RI ti mo s st m 2) (some (.int 0)) := by
  obtain ⟨am, Q, rb, rt, rp, pk, xx, rd, to, rfl, hQ, hn, hT⟩ := h
  exact (c_Mod_toldY l D ti mo am Q s.w s.g rb rt rp (nI m) s.ca s.va st s.tr th s.ha pk xx rd to r hr x hb).toK (fun _ _ => ⟨rfl, ⟨am, Q, rb, rt, rp, pk, xx, rd, to, rfl, hQ, hn, hT⟩, rmw_pm⟩)
theorem rk_count (h : RI ti mo s st m th wr) (hg : ∀ n, n < 512 → ∃ k, k < 16 ∧ s.g n = nI k) (x : Int32) (h7 : up7 x) : CK l y_Mod_count (wl y_Mod_count b_Mod_count 4 (some .int)) (rmL 1) D ti [.ref mo, .int x] wr (RI ti mo s st m 0) (some (.int (cV s.ha s.ca s.va st s.tr (nI m) (gSum s.g 512) x))) := by
  obtain ⟨am, Q, rb, rt, rp, pk, xx, rd, to, rfl, hQ, hn, hT⟩ := h
  exact (c_Mod_count l D ti mo am Q s.w s.g rb rt rp (nI m) s.ca s.va st s.tr th s.ha pk xx rd to x h7).toK (fun _ _ => ⟨by rw [tS_2048 hg], ⟨am, Q, rb, rt, rp, pk, xx, rd, to, rfl, hQ, hn, hT⟩, rmw_pm⟩)
theorem rk_countX (h : RI ti mo s st m th wr) (x : Int32) (hb : x < 0 ∨ 6 < x) : CK l y_Mod_count (wl y_Mod_count b_Mod_count 4 (some .int)) (rmL 1) D ti [.ref mo, .int x] wr (RI ti mo s st m 1) (some (.int 0)) := by
  obtain ⟨am, Q, rb, rt, rp, pk, xx, rd, to, rfl, hQ, hn, hT⟩ := h
  exact (c_Mod_countX l D ti mo am Q s.w s.g rb rt rp (nI m) s.ca s.va st s.tr th s.ha pk xx rd to x hb).toK (fun _ _ => ⟨rfl, ⟨am, Q, rb, rt, rp, pk, xx, rd, to, rfl, hQ, hn, hT⟩, rmw_pm⟩)
theorem rk_pack (h : RI ti mo s st m th wr) (b : Int32) (n : Int64) (hf : fitS b n = true) : CK l y_Mod_packP (wl y_Mod_packP b_Mod_packP 4 (some .int)) (rmL 1) D ti [.ref mo, .int b, .long n] wr (RI ti mo s st m 0) (some (.int (kBits (cLow b) (cLow b + n) ||| (if kEx (cLow b) (cLow b + n) = false then 0 else 32768)))) := by
  obtain ⟨am, Q, rb, rt, rp, pk, xx, rd, to, rfl, hQ, hn, hT⟩ := h
  exact (c_Mod_packP l D ti mo am Q s.w s.g rb rt rp (nI m) s.ca s.va st s.tr th s.ha pk xx rd to b n hf).toK (fun _ _ => ⟨rfl, ⟨am, Q, rb, rt, rp, _, _, _, to, rfl, hQ, hn, hT⟩, rmw_pm⟩)
theorem rk_packX (h : RI ti mo s st m th wr) (b : Int32) (n : Int64) (hb : fitS b n = false) : CK l y_Mod_packP (wl y_Mod_packP b_Mod_packP 4 (some .int)) (rmL 1) D ti [.ref mo, .int b, .long n] wr (RI ti mo s st m 1) (some (.int 0)) := by
  obtain ⟨am, Q, rb, rt, rp, pk, xx, rd, to, rfl, hQ, hn, hT⟩ := h
  exact (c_Mod_packPX l D ti mo am Q s.w s.g rb rt rp (nI m) s.ca s.va st s.tr th s.ha pk xx rd to b n hb).toK (fun _ _ => ⟨rfl, ⟨am, Q, rb, rt, rp, pk, xx, rd, to, rfl, hQ, hn, hT⟩, rmw_pm⟩)
theorem rk_root (h : RI ti mo s st m th wr) (hm : m < 8) (r : Nat) (h1 : 1 ≤ r) (h37 : r < 37) (b n p : Int32) (hf : fitS b n.toInt64 = true) (hp0 : ¬ p < 0) (hp1 : p ≤ 4095) : CK l y_Mod_root (wl y_Mod_root b_Mod_root 5 (some .int)) (rmL 4) D ti [.ref mo, .int (nI r), .int b, .int n, .int p] wr (RI ti mo (s.fv, s.ca, s.va, rrR s.R r m b n p, s.w, s.g, s.tr, s.ha) st (m + 1) 0) (some (.int (cbase (rtM b n p) b).toInt32)) := by
  obtain ⟨am, Q, rb, rt, rp, pk, xx, rd, to, rfl, hQ, hn, hT⟩ := h
  exact (c_Mod_root l D ti mo am Q s.w s.g rb rt rp m hm s.ca s.va st s.tr th s.ha pk xx rd to r h1 h37 b n p hf hp0 hp1).toK (fun _ _ => ⟨rfl, ⟨am, _, _, _, _, _, _, _, to, rfl, fun k hk => by
    show va_up Q r _ k = va_up (va_up s.R r _) (40 + m) _ k
    rw [va_up_ne (va_up s.R r _) _ (show k ≠ 40 + m by omega)]
    exact a_up hQ r _ k hk, by rw [va_up_ne Q _ (show 0 ≠ r by omega)]; exact hn, hT.root h37 hf hp0 hp1⟩, rmw_pm⟩)
theorem rk_rootX (h : RI ti mo s st m th wr) (r : Int32) (hb : r < 1 ∨ 37 ≤ r) (b n p : Int32) : CK l y_Mod_root (wl y_Mod_root b_Mod_root 5 (some .int)) (rmL 4) D ti [.ref mo, .int r, .int b, .int n, .int p] wr (RI ti mo s st m 1) (some (.int 0)) := by
  obtain ⟨am, Q, rb, rt, rp, pk, xx, rd, to, rfl, hQ, hn, hT⟩ := h
  exact (c_Mod_rootX l D ti mo am Q s.w s.g rb rt rp (nI m) s.ca s.va st s.tr th s.ha pk xx rd to r hb b n p).toK (fun _ _ => ⟨rfl, ⟨am, Q, rb, rt, rp, pk, xx, rd, to, rfl, hQ, hn, hT⟩, rmw_pm⟩)
theorem rk_rootY (h : RI ti mo s st m th wr) (r : Nat) (h1 : 1 ≤ r) (h37 : r < 37) (b n p : Int32) (hb : fitS b n.toInt64 = false ∨ p < 0 ∨ 4095 < p) : CK l y_Mod_root (wl y_Mod_root b_Mod_root 5 (some .int)) (rmL 4) D ti [.ref mo, .int (nI r), .int b, .int n, .int p] wr (RI ti mo s st m 2) (some (.int 0)) := by
  obtain ⟨am, Q, rb, rt, rp, pk, xx, rd, to, rfl, hQ, hn, hT⟩ := h
  exact (c_Mod_rootY l D ti mo am Q s.w s.g rb rt rp (nI m) s.ca s.va st s.tr th s.ha pk xx rd to r h1 h37 b n p hb).toK (fun _ _ => ⟨rfl, ⟨am, Q, rb, rt, rp, pk, xx, rd, to, rfl, hQ, hn, hT⟩, rmw_pm⟩)
theorem rk_rootZ (h : RI ti mo s st 8 th wr) (r : Nat) (h1 : 1 ≤ r) (h37 : r < 37) (b n p : Int32) (hf : fitS b n.toInt64 = true) (hp0 : ¬ p < 0) (hp1 : p ≤ 4095) : CK l y_Mod_root (wl y_Mod_root b_Mod_root 5 (some .int)) (rmL 4) D ti [.ref mo, .int (nI r), .int b, .int n, .int p] wr (RI ti mo s st 8 3) (some (.int 0)) := by
  obtain ⟨am, Q, rb, rt, rp, pk, xx, rd, to, rfl, hQ, hn, hT⟩ := h
  exact (c_Mod_rootZ l D ti mo am Q s.w s.g rb rt rp s.ca s.va st s.tr th s.ha pk xx rd to r h1 h37 b n p hf hp0 hp1).toK (fun _ _ => ⟨rfl, ⟨am, Q, rb, rt, rp, pk, xx, rd, to, rfl, hQ, hn, hT⟩, rmw_pm⟩)
theorem rk_run (h : RI ti mo s st m th wr) (hh : s.ha = false) (n : Nat) (h1 : 1 ≤ n) (h2 : n ≤ 10000) : CK l y_Mod_run (wl y_Mod_run b_Mod_run 3 (some .int)) (rmL 14) D ti [.ref mo, .int (nI n)] wr (RI ti mo (kIt n s).2 (st + nI (kIt n s).1) m 0) (some (.int (nI (kIt n s).1))) := by
  obtain ⟨fv, ca, va, R, w, g, tr, ha⟩ := s
  have hh : ha = false := hh
  subst hh
  obtain ⟨am, Q, rb, rt, rp, pk, xx, rd, to, rfl, hQ, hn, hT⟩ := h
  exact (c_Mod_run l D ti mo am Q w g rb rt rp (nI m) ca va st tr th pk xx rd to fv R hQ hn n h1 h2).toK (fun z hp => ⟨rfl, ⟨am, z.1, rb, rt, rp, z.2.1, z.2.2.1, z.2.2.2.1, z.2.2.2.2, rfl, hp.1, hp.2, hT.kp (kIt_kp n _)⟩, rmw_pm⟩)
theorem rk_runX (h : RI ti mo s st m th wr) (n : Int32) (hb : n < 1 ∨ 10000 < n) : CK l y_Mod_run (wl y_Mod_run b_Mod_run 3 (some .int)) (rmL 14) D ti [.ref mo, .int n] wr (RI ti mo s st m 1) (some (.int 0)) := by
  obtain ⟨am, Q, rb, rt, rp, pk, xx, rd, to, rfl, hQ, hn, hT⟩ := h
  exact (c_Mod_runX l D ti mo am Q s.w s.g rb rt rp (nI m) s.ca s.va st s.tr th s.ha pk xx rd to n hb).toK (fun _ _ => ⟨rfl, ⟨am, Q, rb, rt, rp, pk, xx, rd, to, rfl, hQ, hn, hT⟩, rmw_pm⟩)
theorem rk_runY (h : RI ti mo s st m th wr) (hh : s.ha = true) (n : Nat) (h1 : 1 ≤ n) (h2 : n ≤ 10000) : CK l y_Mod_run (wl y_Mod_run b_Mod_run 3 (some .int)) (rmL 14) D ti [.ref mo, .int (nI n)] wr (RI ti mo s st m 2) (some (.int 0)) := by
  obtain ⟨fv, ca, va, R, w, g, tr, ha⟩ := s
  have hh : ha = true := hh
  subst hh
  obtain ⟨am, Q, rb, rt, rp, pk, xx, rd, to, rfl, hQ, hn, hT⟩ := h
  exact (c_Mod_runY l D ti mo am Q w g rb rt rp (nI m) ca va st tr th pk xx rd to n h1 h2).toK (fun _ _ => ⟨rfl, ⟨am, Q, rb, rt, rp, pk, xx, rd, to, rfl, hQ, hn, hT⟩, rmw_pm⟩)
theorem rk_check (h : RI ti mo s st m th wr) : CK l y_Mod_check (wl y_Mod_check b_Mod_check 1 (some .int)) (rmL 0) D ti [.ref mo] wr (RI ti mo s st m 0) (some (.int 0)) := by
  obtain ⟨am, Q, rb, rt, rp, pk, xx, rd, to, rfl, hQ, hn, hT⟩ := h
  exact (c_Mod_check l D ti mo am Q s.w s.g rb rt rp (nI m) s.ca s.va st s.tr th s.ha pk xx rd to).toK (fun _ _ => ⟨rfl, ⟨am, Q, rb, rt, rp, pk, xx, rd, to, rfl, hQ, hn, hT⟩, rmw_pm⟩)
theorem RI.up39 (h : RI ti mo s st m th wr) (c : Cap) : RI ti mo (s.fv, s.ca, s.va, va_up s.R 39 c, s.w, s.g, s.tr, s.ha) st m th wr := by
  obtain ⟨am, Q, rb, rt, rp, pk, xx, rd, to, rfl, hQ, hn, hT⟩ := h
  exact ⟨am, Q, rb, rt, rp, pk, xx, rd, to, rfl, fun k hk => by
    show Q k = va_up s.R 39 c k
    rw [va_up_ne s.R c (show k ≠ 39 by omega)]
    exact hQ k hk, hn, hT.kp (kp_up (kp_r _) (by decide) _)⟩
theorem rk_bound (h : RI ti mo s st m th wr) (me a : Int32) (tp : Bool) : CK l y_Mod_bound (wl y_Mod_bound b_Mod_bound 4 (some .long)) (rmL 4) D ti [.ref mo, .int me, .int a, .int (jb tp)] wr (RI ti mo s st m 0) (some (.long (if tp = false then cbase (me &&& 32767) a else ctop (me &&& 32767) a))) := by
  obtain ⟨am, Q, rb, rt, rp, pk, xx, rd, to, rfl, hQ, hn, hT⟩ := h
  exact (c_Mod_bound l D ti mo am Q s.w s.g rb rt rp (nI m) s.ca s.va st s.tr th s.ha pk xx rd to me a tp).toK (fun _ _ => ⟨rfl, ⟨am, Q, rb, rt, rp, pk, xx, rd, to, rfl, hQ, hn, hT⟩, rmw_pm⟩)
theorem rk_grown (h : RI ti mo s st m th wr) (hm : m ≤ 8) : CK l y_Mod_grown (wl y_Mod_grown b_Mod_grown 3 (some .int)) (rmL 5) D ti [.ref mo] wr (RI ti mo s st m 0) (some (.int (gr2 s.R m s.w s.g 2048))) := by
  obtain ⟨am, Q, rb, rt, rp, pk, xx, rd, to, rfl, hQ, hn, hT⟩ := h
  exact (c_Mod_grown l D ti mo am Q s.w s.g rb rt rp m hm s.ca s.va st s.tr th s.ha pk xx rd to).toK (fun _ _ => ⟨by rw [hT.gr hQ], ⟨am, Q, rb, rt, rp, pk, xx, rd, to, rfl, hQ, hn, hT⟩, rmw_pm⟩)
end CK2
/-! what the class throws, by what it holds -/
section CK3
variable (l : Launch) (D : va_G) {ti : Nat → ClassId} {co : Nat} {s : KS} {st : Int32} {m : Nat} {wc : va_W}
def CT1 (l : Launch) (y : MethodName) (wl0 : List Cond) (D : va_G) (ti : Nat → ClassId) (av : List Value) (wc : va_W) (ic : Nat) (X : String) (ix : Nat) (tx : String) : Prop := ∀ sz : Nat, Ctt l y wl0 (rmC 6 1 6) (PcT D clz (ty4 ti) av wc sz (TW ic X ix tx)) X 1 6
theorem tk_word (htr : ∀ e, l.admits e → e.platform.stackTraces = false) (h : KI ti co s st m wc) (i : Int32) (hb : isW i = false) (x : Int32) : CT1 l y_Cor_word (wl y_Cor_word b_Cor_word 4 (some .int)) D ti [.ref co, .int i, .int x] wc 58 X1 56 "no such word" := by
  obtain ⟨ad, u, pi, ex, de, xi, xb, di, db, fi, fb, ob, reg, kq, kp, rfl, -⟩ := h
  exact fun sz => t_Cor_word l htr D ti sz ad u pi ex de xi xb di db fi fb ob reg kq s.ca s.va s.fv s.R co kp (nI m) st s.tr s.ha i hb x
theorem tk_memory (htr : ∀ e, l.admits e → e.platform.stackTraces = false) (h : KI ti co s st m wc) (i : Int32) (hb : isW i = false) : CT1 l y_Cor_memory (wl y_Cor_memory b_Cor_memory 2 (some .int)) D ti [.ref co, .int i] wc 58 X1 56 "no such word" := by
  obtain ⟨ad, u, pi, ex, de, xi, xb, di, db, fi, fb, ob, reg, kq, kp, rfl, -⟩ := h
  exact fun sz => t_Cor_memory l htr D ti sz ad u pi ex de xi xb di db fi fb ob reg kq s.ca s.va s.fv s.R co kp (nI m) st s.tr s.ha i hb
theorem tk_tag (htr : ∀ e, l.admits e → e.platform.stackTraces = false) (h : KI ti co s st m wc) (i : Int32) (hb : isW i = false) : CT1 l y_Cor_tag (wl y_Cor_tag b_Cor_tag 2 (some .boolean)) D ti [.ref co, .int i] wc 58 X1 56 "no such word" := by
  obtain ⟨ad, u, pi, ex, de, xi, xb, di, db, fi, fb, ob, reg, kq, kp, rfl, -⟩ := h
  exact fun sz => t_Cor_tag l htr D ti sz ad u pi ex de xi xb di db fi fb ob reg kq s.ca s.va s.fv s.R co kp (nI m) st s.tr s.ha i hb
theorem tk_put (htr : ∀ e, l.admits e → e.platform.stackTraces = false) (h : KI ti co s st m wc) (r : Int32) (hb : r < 1 ∨ 31 < r) (a me : Int32) : CT1 l y_Cor_put (wl y_Cor_put b_Cor_put 4 none) D ti [.ref co, .int r, .int a, .int me] wc 58 X1 85 "no such register" := by
  obtain ⟨ad, u, pi, ex, de, xi, xb, di, db, fi, fb, ob, reg, kq, kp, rfl, -⟩ := h
  exact fun sz => t_Cor_put l htr D ti sz ad u pi ex de xi xb di db fi fb ob reg kq s.ca s.va s.fv s.R co kp (nI m) st s.tr s.ha r hb a me
theorem tk_rootX (htr : ∀ e, l.admits e → e.platform.stackTraces = false) (h : KI ti co s st m wc) (r : Int32) (hb : r < 1 ∨ 37 ≤ r) (b n p : Int32) : CT1 l y_Cor_root (wl y_Cor_root b_Cor_root 8 (some .int)) D ti [.ref co, .int r, .int b, .int n, .int p] wc 58 X1 85 "no such register" := by
  obtain ⟨ad, u, pi, ex, de, xi, xb, di, db, fi, fb, ob, reg, kq, kp, rfl, -⟩ := h
  exact fun sz => t_Cor_rootX l htr D ti sz ad u pi ex de xi xb di db fi fb ob reg kq s.ca s.va s.fv s.R co kp (nI m) st s.tr s.ha r hb b n p
theorem tk_rootY (htr : ∀ e, l.admits e → e.platform.stackTraces = false) (h : KI ti co s st m wc) (r : Nat) (h1 : 1 ≤ r) (h36 : r < 37) (b n p : Int32) (hb : fitS b n.toInt64 = false ∨ p < 0 ∨ 4095 < p) : CT1 l y_Cor_root (wl y_Cor_root b_Cor_root 8 (some .int)) D ti [.ref co, .int (nI r), .int b, .int n, .int p] wc 95 X2 93 "no such root" := by
  obtain ⟨ad, u, pi, ex, de, xi, xb, di, db, fi, fb, ob, reg, kq, kp, rfl, -⟩ := h
  exact fun sz => t_Cor_rootY l htr D ti sz ad u pi ex de xi xb di db fi fb ob reg kq s.ca s.va s.fv s.R co kp (nI m) st s.tr s.ha r h1 h36 b n p hb
theorem tk_rootZ (htr : ∀ e, l.admits e → e.platform.stackTraces = false) (h : KI ti co s st 8 wc) (r : Nat) (h1 : 1 ≤ r) (h36 : r < 37) (b n p : Int32) (hf : fitS b n.toInt64 = true) (hp0 : ¬ p < 0) (hp1 : p ≤ 4095) : CT1 l y_Cor_root (wl y_Cor_root b_Cor_root 8 (some .int)) D ti [.ref co, .int (nI r), .int b, .int n, .int p] wc 104 X3 102 "there are eight roots" := by
  obtain ⟨ad, u, pi, ex, de, xi, xb, di, db, fi, fb, ob, reg, kq, kp, rfl, -⟩ := h
  exact fun sz => t_Cor_rootZ l htr D ti sz ad u pi ex de xi xb di db fi fb ob reg kq s.ca s.va s.fv s.R co kp st s.tr s.ha r h1 h36 b n p hf hp0 hp1
theorem tk_runX (htr : ∀ e, l.admits e → e.platform.stackTraces = false) (h : KI ti co s st m wc) (n : Int32) (hb : n < 1 ∨ 10000 < n) : CT1 l y_Cor_run (wl y_Cor_run b_Cor_run 3 (some .int)) D ti [.ref co, .int n] wc 95 X2 131 "no such number of steps" := by
  obtain ⟨ad, u, pi, ex, de, xi, xb, di, db, fi, fb, ob, reg, kq, kp, rfl, -⟩ := h
  exact fun sz => t_Cor_runX l htr D ti sz ad u pi ex de xi xb di db fi fb ob reg kq s.ca s.va s.fv s.R co kp (nI m) st s.tr s.ha n hb
theorem tk_runY (htr : ∀ e, l.admits e → e.platform.stackTraces = false) (h : KI ti co s st m wc) (hh : s.ha = true) (n : Nat) (h1 : 1 ≤ n) (h2 : n ≤ 10000) : CT1 l y_Cor_run (wl y_Cor_run b_Cor_run 3 (some .int)) D ti [.ref co, .int (nI n)] wc 104 X3 137 "the machine is halted" := by
  obtain ⟨ad, u, pi, ex, de, xi, xb, di, db, fi, fb, ob, reg, kq, kp, rfl, -⟩ := h
  rw [hh]
  exact fun sz => t_Cor_runY l htr D ti sz ad u pi ex de xi xb di db fi fb ob reg kq s.ca s.va s.fv s.R co kp (nI m) st s.tr n h1 h2
theorem tk_toldX (htr : ∀ e, l.admits e → e.platform.stackTraces = false) (h : KI ti co s st m wc) (r : Int32) (hb : r < 0 ∨ 37 ≤ r) (x : Int32) : CT1 l y_Cor_told (wl y_Cor_told b_Cor_told 4 (some .int)) D ti [.ref co, .int r, .int x] wc 58 X1 85 "no such register" := by
  obtain ⟨ad, u, pi, ex, de, xi, xb, di, db, fi, fb, ob, reg, kq, kp, rfl, -⟩ := h
  exact fun sz => t_Cor_toldX l htr D ti sz ad u pi ex de xi xb di db fi fb ob reg kq s.ca s.va s.fv s.R co kp (nI m) st s.tr s.ha r hb x
theorem tk_toldY (htr : ∀ e, l.admits e → e.platform.stackTraces = false) (h : KI ti co s st m wc) (r : Nat) (hr : r < 37) (x : Int32) (hb : x < 0 ∨ 6 < x) : CT1 l y_Cor_told (wl y_Cor_told b_Cor_told 4 (some .int)) D ti [.ref co, .int (nI r), .int x] wc 95 X2 161 "nothing of that number is told" := by
  obtain ⟨ad, u, pi, ex, de, xi, xb, di, db, fi, fb, ob, reg, kq, kp, rfl, -⟩ := h
  exact fun sz => t_Cor_toldY l htr D ti sz ad u pi ex de xi xb di db fi fb ob reg kq s.ca s.va s.fv s.R co kp (nI m) st s.tr s.ha r hr x hb
theorem tk_count (htr : ∀ e, l.admits e → e.platform.stackTraces = false) (h : KI ti co s st m wc) (x : Int32) (hb : x < 0 ∨ 6 < x) : CT1 l y_Cor_count (wl y_Cor_count b_Cor_count 2 (some .int)) D ti [.ref co, .int x] wc 95 X2 184 "nothing of that number is counted" := by
  obtain ⟨ad, u, pi, ex, de, xi, xb, di, db, fi, fb, ob, reg, kq, kp, rfl, -⟩ := h
  exact fun sz => t_Cor_count l htr D ti sz ad u pi ex de xi xb di db fi fb ob reg kq s.ca s.va s.fv s.R co kp (nI m) st s.tr s.ha x hb
theorem tk_pack (htr : ∀ e, l.admits e → e.platform.stackTraces = false) (h : KI ti co s st m wc) (b : Int32) (n : Int64) (hb : fitS b n = false) : CT1 l y_Cor_pack (wl y_Cor_pack b_Cor_pack 6 (some .int)) D ti [.ref co, .int b, .long n] wc 95 X2 186 "beyond the space of addresses" := by
  obtain ⟨ad, u, pi, ex, de, xi, xb, di, db, fi, fb, ob, reg, kq, kp, rfl, -⟩ := h
  exact fun sz => t_Cor_pack l htr D ti sz ad u pi ex de xi xb di db fi fb ob reg kq s.ca s.va s.fv s.R co kp (nI m) st s.tr s.ha b n hb
end CK3
