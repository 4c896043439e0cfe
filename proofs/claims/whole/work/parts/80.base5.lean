def NL : List Cond := [(Jvm.Cond.methodLinkNest "CheriCore$State" (17 : Nat) ({ cls := "CheriCore$Capability", name := "<init>", desc := "()V" } : Jvm.MethodName) "CheriCore"),
  (Jvm.Cond.methodLinkNest "CheriCore$State" (24 : Nat) ({ cls := "CheriCore$Memory", name := "<init>", desc := "()V" } : Jvm.MethodName) "CheriCore"),
  (Jvm.Cond.methodLinkNest "CheriCore$Pipeline" (11 : Nat) ({ cls := "CheriCore$Instruction", name := "<init>", desc := "()V" } : Jvm.MethodName) "CheriCore"),
  (Jvm.Cond.methodLinkNest "CheriCore$BaseUnit" (11 : Nat) ({ cls := "CheriCore$Capability", name := "<init>", desc := "()V" } : Jvm.MethodName) "CheriCore"),
  (Jvm.Cond.methodLinkNest "CheriCore$CapabilityUnit" (11 : Nat) ({ cls := "CheriCore$Packer", name := "<init>", desc := "()V" } : Jvm.MethodName) "CheriCore"),
  (Jvm.Cond.methodLinkNest "CheriCore" (34 : Nat) ({ cls := "CheriCore$Packer", name := "<init>", desc := "()V" } : Jvm.MethodName) "CheriCore"),
  (Jvm.Cond.methodLinkNest "CheriCore" (41 : Nat) ({ cls := "CheriCore$Capability", name := "<init>", desc := "()V" } : Jvm.MethodName) "CheriCore")]
theorem NL_n : ∀ w ∈ NL, ∃ a i x h, w = Cond.methodLinkNest a i x h := by
  intro w hw
  simp only [NL, List.mem_cons, List.not_mem_nil, or_false] at hw
  rcases hw with rfl | rfl | rfl | rfl | rfl | rfl | rfl <;> exact ⟨_, _, _, _, rfl⟩
/-! Rows for constructors: worlds that grow. -/
def rmC (d mc ms : Nat) : Room := { frames := d, cells := mc, slots := ms, locals := 40 * d }
/-- what the tables say beside the words: links to nest mates, the class of arrays of capabilities -/
def NW (U : State) : Prop := (∀ w ∈ NL, va_Nw w U) ∧ va_AO "CheriCore$Capability" U
theorem NW.warm {s U : State} (hW : s.WarmedH U.vm) (h : NW s) : NW U := by
  refine ⟨fun w hw => ?_, va_AO.moved hW.alike h.2⟩
  obtain ⟨a, i, x, z, rfl⟩ := NL_n w hw
  exact va_Nw.warmM hW (h.1 _ hw)
theorem NW.same {u U : State} (e : u.vm = U.vm) (h : NW u) : NW U := by
  refine ⟨fun w hw => ?_, va_AO.moved (by rw [e]; exact Vm.Alike.refl _) h.2⟩
  obtain ⟨a, i, x, z, rfl⟩ := NL_n w hw
  exact va_Nw.same rfl e (h.1 _ hw)
def PrN (D : va_G) (cl : List vw_C) (tys : List (ClassId × FieldType)) (av : List Value) (ws : va_W) (sz : Nat) : Array Value → State → Prop :=
  fun v U => v = av.toArray ∧ U.heap.size = sz ∧ va_P D cl ws U.heap ∧ va_K D cl tys U ∧ va_D (fun _ => True) ws ∧ NW U
/-- a constructor's contract: its cells ws become ws' u, with cells of its own beside them -/
def Cn {S : Type} (l : Launch) (y : MethodName) (wl : List Cond) (rm : Room) (D : va_G) (cl : List vw_C) (tys : List (ClassId × FieldType)) (av : List Value) (ws : va_W) (sz : Nat) (ws' : S → va_W) (post : S → Prop) (mc ms : Nat) : Prop :=
  Met l y wl rm (PrN D cl tys av ws sz) (va_Qv post (fun u t => va_P D cl (ws' u) t.heap ∧ va_D (va_A ws sz) (ws' u)) (va_A ws sz)) mc ms (va_A ws sz)
theorem PrN.blind {D : va_G} {cl : List vw_C} {tys : List (ClassId × FieldType)} {av : List Value} {ws : va_W} {sz : Nat} : FrameBlind (PrN D cl tys av ws sz) :=
  fun a U g mk q => ⟨q.1, q.2.1, q.2.2.1, va_K.moved (u := U) (U := U.calling g mk a) (Vm.Alike.refl U.vm) q.2.2.2.1, q.2.2.2.2.1, NW.same (u := U) (U := U.calling g mk a) rfl q.2.2.2.2.2⟩
theorem cw_i {R : Room} {s : State} {args : Array Value} {own : String} {index maxL n mc ms : Nat} {y : MethodName} {bytes : ByteArray} {rm : Room} (hts : ∀ w ∈ TB, w.before args s = true) (hl : Cond.methodLink own index y ∈ TB) (k : Ci y bytes maxL n) (hrc : rm.cells = mc) (hrs : rm.slots = ms) (hR : rm.frames + 1 ≤ R.frames ∧ 8 + (maxL + 11) + rm.locals ≤ R.locals) : CallB R s args own index y bytes maxL none (wl y bytes maxL none) rm mc ms n ∧ y.name = "<init>" ∧ (Cond.instanceMethod y).before args s = true := by
  obtain ⟨k1, k2, k3, k4, k5⟩ := k
  exact ⟨callB_of n hts (TB_in (wl_in k3)) rfl hrc hrs (hts _ k2) (hts _ hl) k5 hR, k4, hts _ k1⟩
theorem cw_n {R : Room} {s : State} {args : Array Value} {own host : String} {index maxL n mc ms : Nat} {y : MethodName} {bytes : ByteArray} {rm : Room} (hts : ∀ w ∈ TB, w.before args s = true) (hN : NW s) (hl : Cond.methodLinkNest own index y host ∈ NL) (k : Ci y bytes maxL n) (hrc : rm.cells = mc) (hrs : rm.slots = ms) (hR : rm.frames + 1 ≤ R.frames ∧ 8 + (maxL + 11) + rm.locals ≤ R.locals) : va_CN R s args own index y host bytes maxL none (wl y bytes maxL none) rm mc ms n ∧ y.name = "<init>" ∧ (Cond.instanceMethod y).before args s = true := by
  obtain ⟨k1, k2, k3, k4, k5⟩ := k
  exact ⟨va_cnB n hts (TB_in (wl_in k3)) rfl hrc hrs (hN.1 _ hl) (hts _ k2) k5 hR, k4, hts _ k1⟩
theorem ra_inj {U : State} {a b : ClassId} {ty : FieldType} (h1 : va_RA U a ty) (h2 : va_RA U b ty) : a = b := by
  cases ty with
  | object C =>
    obtain ⟨_, _, _, _, _, e1⟩ := h1
    obtain ⟨_, _, _, _, _, e2⟩ := h2
    exact Option.some.inj (e1.symm.trans e2)
  | _ => exact Option.some.inj (Eq.trans (Eq.symm h1) h2)
section QN
variable {p : Program} {l : Launch} {e : Env} {R : Room} {s : State} {m : MethodId} {args : Array Value} {below : List Frame} {meth : Method} {c : Code} {H : Heap} {locs : List Loc} {cells slots : Nat} {Q : State → Prop}
variable {cc : ByteArray} {pc nL : Nat} {ls : Array Slot} {rest st0 : List Value} {D : va_G} {cl : List vw_C} {A : Nat → Prop} {a : Nat} {tys : List (ClassId × FieldType)} {ws wc wr : va_W} {H0 : Heap} {Ts : List Cond} {own : String}
variable {y : MethodName} {bytes : ByteArray} {maxL mc ms n index : Nat} {ret : Option FieldType} {rm : Room} {C : String} {av As : List Value} {sz b : Nat}
theorem Cn.ofF {S : Type} {ws' : S → va_W} {post : S → Prop} (hy : plainFor y = true) (hy1 : y.name = "<init>") (hlen : (lg_sl av).length ≤ maxL)
    (body : ∀ (p : Program) (e : Env) (s : State) (m : MethodId) (below : List Frame) (meth : Method) (c : Code) (ls : Array Slot), CallFix p m c cc maxL s av.toArray TB y.cls → meth.name = "<init>" → meth.sig.returnType = none → meth.locks = false → lv_has ls maxL (lv_args 0 av) → NW s → (∀ q, s.heap.size ≤ q → va_A ws s.heap.size q) → s.heap.size = sz → Lv D cl tys (va_A ws s.heap.size) s.heap ws s s.heap [] →
      W p l e rm s m av.toArray below meth c s.heap [] 0 0 (MQ below (va_Qv post (fun u t => va_P D cl (ws' u) t.heap ∧ va_D (va_A ws s.heap.size) (ws' u)) (va_A ws s.heap.size)) av.toArray s mc ms (va_A ws s.heap.size)) (F0 m 0 ls [])) : Cn l y (wl y cc maxL none) rm D cl tys av ws sz ws' post mc ms := by
  refine va_MetF (cc := cc) (maxL := maxL) (ret := none) hy rfl ?_
  intro p e s m args below meth c s₁ B hml hv
  obtain ⟨rfl, hsz, hP, hK, hD, hN⟩ := hv
  have hl := lv_entry av (n := maxL) hlen
  rw [lg_entry_eq]
  have h1 : meth.name = "<init>" := by rw [(name_of_methodNamed B.named B.method).1]; exact hy1
  have r := body p e s m below meth c _ ⟨B.exec, B.bytes, hml, findClass_of_methodNamed B.named, fun w hw => atoms_spec (ws := wl y cc maxL none) B.pre w (List.mem_cons_of_mem _ hw)⟩ h1 B.returns B.notSynchronized hl hN (fun q h => Or.inr h) hsz ⟨hP, hK, hD.self, va_S.rf⟩
  subst hsz
  exact r
theorem Lv.nv {S : Type} {ws' : S → va_W} {post : S → Prop} {ws1 : va_W} (hw : Lv D cl tys A s.heap ws1 s H locs) (S0 : CallFix p m c cc nL s args Ts own) (hr : meth.sig.returnType = none) (hlk : meth.locks = false) (hdg : decode cc pc = .ok (.return_, 1)) (u : S) (hp : post u) (hws : ws1 = ws' u) :
    W p l e R s m args below meth c H locs cells slots (MQ below (va_Qv post (fun u t => va_P D cl (ws' u) t.heap ∧ va_D A (ws' u)) A) args s cells slots A) (F0 m pc ls []) := by
  subst hws
  obtain ⟨hP, hK, hD, hS⟩ := hw
  exact W.vret S0.1 S0.2.1 hr (fun t ht hW => ⟨⟨u, rfl, hp, by rw [ht]; exact hP, hD⟩, hS.F ht⟩) hS.2.2 hdg hlk
theorem q_new (S0 : CallFix p m c cc nL s args Ts own) (hw : Lv D cl tys A H0 ws s H locs) (hA : ∀ q, H0.size ≤ q → A q) {T : u_T} {N ci : Nat} (hin : ∀ w ∈ u_ws C T N, w ∈ Ts) (ty : Nat → FieldType) (hty : ∀ k, k < N → parseFieldDescriptor (T k).2.2.1 = some (ty k)) (hcl : Cond.classLink own index C ∈ Ts) (hinst : Cond.instantiable C N ∈ Ts) (hini : Cond.initialized C ∈ Ts) (hc : cl[ci]? = some (C, T, N)) {fs : List Value} (hfs : ∀ j, j < N → defaultValue (ty j) = vp_V fs j) (hcells : cells + 1 ≤ R.cells) (hslots : slots + N ≤ R.slots) (hdg : decode cc pc = .ok (.new index, 3))
    (kk : ∀ (q : Nat) (H1 : Heap), Lv D cl tys A H0 (ws ++ [(q, .inr (ci, fs))]) s H1 locs → W p l e R s m args below meth c H1 locs (cells + 1) (slots + N) Q (F0 m (pc + 3) ls (.ref q :: rest))) : W p l e R s m args below meth c H locs cells slots Q (F0 m pc ls rest) :=
  va_new S0.1 S0.2.1 S0.2.2.2.2 hin ty hty S0.2.2.2.1 (S0.2.2.2.2 _ hcl) (S0.2.2.2.2 _ hinst) (S0.2.2.2.2 _ hini) hw.2.1 hw.1 hw.2.2.1 hw.2.2.2 hA hc hfs hcells hslots hdg (fun q H1 h1 h2 h3 => kk q H1 ⟨h1, hw.2.1, h2, h3⟩)
theorem q_newa (S0 : CallFix p m c cc nL s args Ts own) (hw : Lv D cl tys A H0 ws s H locs) (hA : ∀ q, H0.size ≤ q → A q) {atype : ArrayType} (harr : Cond.arrayClass (newarray.typeOf atype) ∈ Ts) {ty : FieldType} (hty : newarray.typeOf atype = ty) (t0 : Nat) {cT : ClassId} (ht : tys[t0]? = some (cT, ty)) {x : Int32} {N' : Nat} {a0 : vp_A} (ha : ∀ cA : ClassId, vp_cell cA a0 = arrV cA N' (fun _ => defaultValue ty)) (hn : ¬ x < 0) (hN : x.toNatClampNeg = N') (hbytes : N' * componentBytes ty ≤ 536870912) (hcells : cells + 1 ≤ R.cells) (hslots : slots + N' ≤ R.slots) (hdg : decode cc pc = .ok (.newarray atype, 2))
    (kk : ∀ (q : Nat) (H1 : Heap), Lv D cl tys A H0 (ws ++ [(q, .inl (cT, a0))]) s H1 locs → W p l e R s m args below meth c H1 locs (cells + 1) (slots + N') Q (F0 m (pc + 2) ls (.ref q :: rest))) : W p l e R s m args below meth c H locs cells slots Q (F0 m pc ls (.int x :: rest)) :=
  va_newa S0.1 S0.2.1 (S0.2.2.2.2 _ harr) hty hw.2.1 hw.1 hw.2.2.1 hw.2.2.2 hA ha hn hN hbytes hcells hslots hdg (fun q cA H1 hK h1 h2 h3 => by
    have e1 := (hK.2 tys.length (cA, ty) (by rw [List.getElem?_append_right (Nat.le_refl _), Nat.sub_self]; rfl)).2
    have e : cA = cT := ra_inj e1 (hw.2.1.2 t0 _ ht).2
    subst e
    exact kk q H1 ⟨h1, hw.2.1, h2, h3⟩)
theorem q_newq (S0 : CallFix p m c cc nL s args Ts own) (hw : Lv D cl tys A H0 ws s H locs) (hA : ∀ q, H0.size ≤ q → A q) (hcl : Cond.classLink own index C ∈ Ts) (hover : va_AO C s) (t0 : Nat) {cT : ClassId} (ht : tys[t0]? = some (cT, .object C)) {x : Int32} {N' : Nat} (hn : ¬ x < 0) (hN : x.toNatClampNeg = N') (hbytes : N' * 4 ≤ 536870912) (hcells : cells + 1 ≤ R.cells) (hslots : slots + N' ≤ R.slots) (hdg : decode cc pc = .ok (.anewarray index, 3))
    (kk : ∀ (q : Nat) (H1 : Heap), Lv D cl tys A H0 (ws ++ [(q, .inl (cT, N', .inr (.inr (.inr (.inr (fun _ => none))))))]) s H1 locs → W p l e R s m args below meth c H1 locs (cells + 1) (slots + N') Q (F0 m (pc + 3) ls (.ref q :: rest))) : W p l e R s m args below meth c H locs cells slots Q (F0 m pc ls (.int x :: rest)) :=
  va_newq S0.1 S0.2.1 S0.2.2.2.1 (S0.2.2.2.2 _ hcl) hover hw.2.1 hw.1 hw.2.2.1 hw.2.2.2 hA hn hN hbytes hcells hslots hdg (fun q cA H1 hK h1 h2 h3 => by
    have e1 := (hK.2 tys.length (cA, .object C) (by rw [List.getElem?_append_right (Nat.le_refl _), Nat.sub_self]; rfl)).2
    have e : cA = cT := ra_inj e1 (hw.2.1.2 t0 _ ht).2
    subst e
    exact kk q H1 ⟨h1, hw.2.1, h2, h3⟩)
theorem q_putF (S0 : CallFix p m c cc nL s args Ts own) (hw : Lv D cl tys A H0 ws s H locs) {ref : String} {T : u_T} {N ci : Nat} (hin : ∀ w ∈ u_ws C T N, w ∈ Ts) (ty0 : Nat → FieldType) (hty : ∀ k, k < N → parseFieldDescriptor (T k).2.2.1 = some (ty0 k)) (hnm : ∀ a, a < N → ∀ b, b < N → a ≠ b → (T a).2.1 ≠ (T b).2.1) (q0 : Nat) {fs : List Value} (he : ws[q0]? = some (a, .inr (ci, fs))) (hc : cl[ci]? = some (C, T, N)) (k : Nat) (hk : k < N) (hlink : Cond.fieldLink own index ref (T k).2.1 (T k).2.2.1 ∈ Ts) (href : (T k).1 = ref) (hfin : (T k).2.2.2 = true) (hin2 : meth.name = "<init>") (hdecl : (T k).1 = own) {v : Value} (hn : narrow (ty0 k) v = v) (hfit : fits (ty0 k) v = true) (hl : k < fs.length) (hdg : decode cc pc = .ok (.putfield index, 3))
    (kk : ∀ (H1 : Heap) (locs1 : List Loc), Lv D cl tys A H0 (ws.set q0 (a, .inr (ci, fs.set k v))) s H1 locs1 → W p l e R s m args below meth c H1 locs1 cells slots Q (F0 m (pc + 3) ls rest)) : W p l e R s m args below meth c H locs cells slots Q (F0 m pc ls (v :: .ref a :: rest)) :=
  va_putF S0.1 S0.2.1 S0.2.2.2.2 hin ty0 hty hnm S0.2.2.2.1 hw.2.1 hw.1 hw.2.2.1 hw.2.2.2 q0 he hc k hk (S0.2.2.2.2 _ hlink) (fun x h => by rw [← href]; exact h) hfin hin2 hdecl (hty k hk) hn hfit hl hdg (fun H1 locs1 h1 h2 h3 => kk H1 locs1 ⟨h1, hw.2.1, h2, h3⟩)
/-- behind a constructor: what came back beside the rest -/
theorem q_cn {S : Type} {ws' : S → va_W} {post : S → Prop} {a9 : Array Value} (hr : va_Run p l e R s m args below meth c H locs cells slots mc ms (F0 m pc ls st0) rest (va_Qv post (fun u t => va_P D cl (ws' u) t.heap ∧ va_D (va_A wc H.size) (ws' u)) (va_A wc H.size) a9) (va_A wc H.size))
    (hw : Lv D cl tys A H0 ws s H locs) (hA : ∀ q, H0.size ≤ q → A q) (isC isR : List Nat) (hC : isC.map (fun i => ws[i]?) = wc.map some) (hR : isR.map (fun i => ws[i]?) = wr.map some) (hn : va_nd isR = true) (hdis : ∀ i ∈ isR, i ∉ isC)
    (kk : ∀ (u : S) (H1 : Heap) (locs1 : List Loc), post u → Lv D cl tys A H0 (wr ++ ws' u) s H1 locs1 → W p l e R s m args below meth c H1 locs1 (cells + mc) (slots + ms) Q (F0 m (pc + 3) ls rest)) : W p l e R s m args below meth c H locs cells slots Q (F0 m pc ls st0) := by
  obtain ⟨hP, hK, hD, hS⟩ := hw
  have hF := va_free hD hS hA isC hC
  refine va_callv hr hS (fun q _ h => hF q h) hF (fun u t H1 locs1 ht hvm hp hB hz hk hS1 => ?_)
  obtain ⟨hP1, hD1⟩ := hB
  rw [ht] at hP1
  obtain ⟨hP2, hD2⟩ := va_join hP hD isC isR hC hR hn hdis hk hF hP1 hD1
  exact kk u H1 locs1 hp ⟨hP2, hK, hD2, hS1⟩
theorem Lv.preN {sz : Nat} (hw : Lv D cl tys A H0 ws s H locs) (hN : NW s) (isC : List Nat) (hd : va_nd isC = true) (hC : isC.map (fun i => ws[i]?) = wc.map some) (hz : H.size = sz) : ∀ U : State, U.heap = H → s.WarmedH U.vm → PrN D cl tys av wc sz av.toArray U := by
  intro U hU hW
  refine ⟨rfl, by rw [hU]; exact hz, ?_, va_K.moved hW.alike hw.2.1, (hw.2.2.1.sub isC hd hC).weaken (fun _ _ _ _ => trivial), NW.warm hW hN⟩
  rw [hU]
  intro k q hk
  have h1 : (isC.map (fun i => ws[i]?))[k]? = some (some q) := by rw [hC, List.getElem?_map, hk]; rfl
  rw [List.getElem?_map] at h1
  cases h2 : isC[k]? with
  | none => rw [h2] at h1; cases h1
  | some i => rw [h2] at h1; exact hw.1 i q (Option.some.inj h1)
theorem q_runI {wl0 : List Cond} {Qc : Array Value → State → Outcome → State → Prop} {free : Addr → Prop} (S0 : CallFix p m c cc nL s args Ts own) (hM : Met l y wl0 rm (PrN D cl tys (.ref b :: As) wc H.size) Qc mc ms free) (cw : CallB R s args own index y bytes maxL none wl0 rm mc ms n ∧ y.name = "<init>" ∧ (Cond.instanceMethod y).before args s = true) (hw : Lv D cl tys A H0 ws s H locs) (hN : NW s) (isC : List Nat) (hd : va_nd isC = true) (hC : isC.map (fun i => ws[i]?) = wc.map some) (hn : As.length = n) (hsize : ls.size = nL) (hst : st0 = As.reverse ++ .ref b :: rest) (hW : (rest.map fun v => v.category).sum ≤ 8) (hdg : decode cc pc = .ok (.invokespecial index, 3)) (hf : cells + mc ≤ R.cells ∧ slots + ms ≤ R.slots) :
    va_Run p l e R s m args below meth c H locs cells slots mc ms (F0 m pc ls st0) rest (Qc (Value.ref b :: As).toArray) free :=
  va_runI (g := F0 m pc ls st0) S0 hM cw ⟨PrN.blind, hw.preN hN isC hd hC rfl⟩ rfl hn hsize hst (lv_room (pc := pc) (ls := ls) (rest := st0) hW) hdg hf
theorem q_runIN {host : String} {wl0 : List Cond} {Qc : Array Value → State → Outcome → State → Prop} {free : Addr → Prop} (S0 : CallFix p m c cc nL s args Ts own) (hM : Met l y wl0 rm (PrN D cl tys (.ref b :: As) wc H.size) Qc mc ms free) (cw : va_CN R s args own index y host bytes maxL none wl0 rm mc ms n ∧ y.name = "<init>" ∧ (Cond.instanceMethod y).before args s = true) (hw : Lv D cl tys A H0 ws s H locs) (hN : NW s) (isC : List Nat) (hd : va_nd isC = true) (hC : isC.map (fun i => ws[i]?) = wc.map some) (hn : As.length = n) (hsize : ls.size = nL) (hst : st0 = As.reverse ++ .ref b :: rest) (hW : (rest.map fun v => v.category).sum ≤ 8) (hdg : decode cc pc = .ok (.invokespecial index, 3)) (hf : cells + mc ≤ R.cells ∧ slots + ms ≤ R.slots) :
    va_Run p l e R s m args below meth c H locs cells slots mc ms (F0 m pc ls st0) rest (Qc (Value.ref b :: As).toArray) free :=
  va_runIN (g := F0 m pc ls st0) S0 hM cw ⟨PrN.blind, hw.preN hN isC hd hC rfl⟩ rfl hn hsize hst (lv_room (pc := pc) (ls := ls) (rest := st0) hW) hdg hf
/-- a loop in which cells are made: their numbers go with z -/
theorem q_loopN {Z : Type} {pcL : Nat} {st : List Value} (lv' : Z → List (Nat × Value)) (wz : Z → va_W) (fc fs : Z → Nat) (I : Z → Prop) (mu : Z → Nat)
    (step : ∀ (z : Z) (H : Heap) (locs : List Loc) (ls : Array Slot), I z → Lv D cl tys A H0 (wz z) s H locs → lv_has ls nL (lv' z) → (∀ (z' : Z) (H' : Heap) (locs' : List Loc) (ls' : Array Slot), I z' → mu z' < mu z → Lv D cl tys A H0 (wz z') s H' locs' → lv_has ls' nL (lv' z') → W p l e R s m args below meth c H' locs' (fc z') (fs z') Q (F0 m pcL ls' st)) → W p l e R s m args below meth c H locs (fc z) (fs z) Q (F0 m pcL ls st))
    (z0 : Z) (h0 : I z0) (hw : Lv D cl tys A H0 (wz z0) s H locs) (hl : lv_has ls nL (lv' z0)) : W p l e R s m args below meth c H locs (fc z0) (fs z0) Q (F0 m pcL ls st) := by
  have go : ∀ (n : Nat) (z : Z) (H : Heap) (locs : List Loc) (ls : Array Slot), mu z < n → I z → Lv D cl tys A H0 (wz z) s H locs → lv_has ls nL (lv' z) → W p l e R s m args below meth c H locs (fc z) (fs z) Q (F0 m pcL ls st) := by
    intro n
    induction n with
    | zero => intro z H locs ls h; exact absurd h (Nat.not_lt_zero _)
    | succ n ih => intro z H locs ls h hI hw hl; exact step z H locs ls hI hw hl (fun z' H' locs' ls' hI' hm hw' hl' => ih z' H' locs' ls' (by omega) hI' hw' hl')
  exact go (mu z0 + 1) z0 H locs ls (Nat.lt_succ_self _) h0 hw hl
theorem Lv.pick {ws1 : va_W} (hw : Lv D cl tys A H0 ws s H locs) (is : List Nat) (hd : va_nd is = true) (hs : is.map (fun i => ws[i]?) = ws1.map some) : Lv D cl tys A H0 ws1 s H locs := by
  refine ⟨fun k q hk => ?_, hw.2.1, hw.2.2.1.sub is hd hs, hw.2.2.2⟩
  have h1 : (is.map (fun i => ws[i]?))[k]? = some (some q) := by rw [hs, List.getElem?_map, hk]; rfl
  rw [List.getElem?_map] at h1
  cases h2 : is[k]? with
  | none => rw [h2] at h1; cases h1
  | some i => rw [h2] at h1; exact hw.1 i q (Option.some.inj h1)
theorem Lv.snoc {X P Z : va_W} (hw : Lv D cl tys A H0 ((X ++ P) ++ Z) s H locs) : Lv D cl tys A H0 ((X ++ Z) ++ P) s H locs := ⟨hw.1.swap, hw.2.1, hw.2.2.1.swap, hw.2.2.2⟩
theorem q_aastN (S0 : CallFix p m c cc nL s args Ts own) (hw : Lv D cl tys A H0 ws s H locs) (q0 t0 qk ci : Nat) {cA : ClassId} {r : vw_C} {n v : Nat} {vs : List Value} {f : Nat → Option Nat} (ha : ws[q0]? = some (a, .inl (cA, n, .inr (.inr (.inr (.inr f)))))) (ht : tys[t0]? = some (cA, .object r.1)) (hv : ws[qk]? = some (v, .inr (ci, vs))) (hc : cl[ci]? = some r) {k : Nat} (hk : k < n) (hn : n < 2 ^ 31) (hdg : decode cc pc = .ok (.aastore, 1))
    (kk : ∀ (H1 : Heap) (locs1 : List Loc), Lv D cl tys A H0 (ws.set q0 (a, .inl (cA, n, .inr (.inr (.inr (.inr (va_up f k (some v)))))))) s H1 locs1 → W p l e R s m args below meth c H1 locs1 cells slots Q (F0 m (pc + 1) ls rest)) : W p l e R s m args below meth c H locs cells slots Q (F0 m pc ls (.ref v :: .int (nI k) :: .ref a :: rest)) :=
  va_astq S0.1 S0.2.1 hw.2.1 hw.1 hw.2.2.1 hw.2.2.2 q0 t0 qk ci ha ht hv hc (nI_in hk hn) hdg (fun H1 locs1 h1 h2 h3 => by
    rw [nI_clamp (Nat.lt_trans hk hn)] at h1 h2
    exact kk H1 locs1 ⟨h1, hw.2.1, h2, h3⟩)
theorem q_runIG {wl0 : List Cond} {Qc : Array Value → State → Outcome → State → Prop} {free : Addr → Prop} (S0 : CallFix p m c cc nL s args Ts own) (hM : Met l y wl0 rm (Pr D cl tys (.ref b :: As) ws) Qc 0 0 free) (cw : CallB R s args own index y bytes maxL none wl0 rm 0 0 n ∧ y.name = "<init>" ∧ (Cond.instanceMethod y).before args s = true) (hw : Lv D cl tys A H0 ws s H locs) (hn : As.length = n) (hsize : ls.size = nL) (hst : st0 = As.reverse ++ .ref b :: rest) (hW : (rest.map fun v => v.category).sum ≤ 8) (hdg : decode cc pc = .ok (.invokespecial index, 3)) (hf : cells + 0 ≤ R.cells ∧ slots + 0 ≤ R.slots) :
    va_Run p l e R s m args below meth c H locs cells slots 0 0 (F0 m pc ls st0) rest (Qc (Value.ref b :: As).toArray) free :=
  va_runI (g := F0 m pc ls st0) S0 hM cw ⟨Pr.blind, hw.pre⟩ rfl hn hsize hst (lv_room (pc := pc) (ls := ls) (rest := st0) hW) hdg hf
theorem q_runIGN {host : String} {wl0 : List Cond} {Qc : Array Value → State → Outcome → State → Prop} {free : Addr → Prop} (S0 : CallFix p m c cc nL s args Ts own) (hM : Met l y wl0 rm (Pr D cl tys (.ref b :: As) ws) Qc 0 0 free) (cw : va_CN R s args own index y host bytes maxL none wl0 rm 0 0 n ∧ y.name = "<init>" ∧ (Cond.instanceMethod y).before args s = true) (hw : Lv D cl tys A H0 ws s H locs) (hn : As.length = n) (hsize : ls.size = nL) (hst : st0 = As.reverse ++ .ref b :: rest) (hW : (rest.map fun v => v.category).sum ≤ 8) (hdg : decode cc pc = .ok (.invokespecial index, 3)) (hf : cells + 0 ≤ R.cells ∧ slots + 0 ≤ R.slots) :
    va_Run p l e R s m args below meth c H locs cells slots 0 0 (F0 m pc ls st0) rest (Qc (Value.ref b :: As).toArray) free :=
  va_runIN (g := F0 m pc ls st0) S0 hM cw ⟨Pr.blind, hw.pre⟩ rfl hn hsize hst (lv_room (pc := pc) (ls := ls) (rest := st0) hW) hdg hf
theorem Lv.lead {X P : va_W} {x : Nat × va_E} (hw : Lv D cl tys A H0 ((X ++ [x]) ++ P) s H locs) : Lv D cl tys A H0 ([x] ++ (X ++ P)) s H locs := by
  have h1 : Lv D cl tys A H0 ((X ++ P) ++ [x]) s H locs := hw.snoc
  exact Lv.snoc (X := []) (P := X ++ P) (Z := [x]) h1
theorem Lv.lead0 {X : va_W} {x : Nat × va_E} (hw : Lv D cl tys A H0 (X ++ [x]) s H locs) : Lv D cl tys A H0 ([x] ++ X) s H locs := Lv.snoc (X := []) (P := X) (Z := [x]) hw
theorem Lv.pickP {X cx P : va_W} (hw : Lv D cl tys A H0 (X ++ P) s H locs) (is : List Nat) (hd : va_nd is = true) (hs : is.map (fun i => X[i]?) = cx.map some) : Lv D cl tys A H0 (cx ++ P) s H locs := ⟨hw.1.part is hs, hw.2.1, hw.2.2.1.part is hd hs, hw.2.2.2⟩
theorem Lv.preW (hw : Lv D cl tys A H0 ws s H locs) (hN : NW s) : ∀ U : State, U.heap = H → s.WarmedH U.vm → PrN D cl tys av ws H.size av.toArray U :=
  fun U hU hW => ⟨rfl, by rw [hU], by rw [hU]; exact hw.1, va_K.moved hW.alike hw.2.1, hw.2.2.1.weaken (fun _ _ _ _ => trivial), NW.warm hW hN⟩
theorem q_cnW {S : Type} {ws' : S → va_W} {post : S → Prop} {a9 : Array Value} (hr : va_Run p l e R s m args below meth c H locs cells slots mc ms (F0 m pc ls st0) rest (va_Qv post (fun u t => va_P D cl (ws' u) t.heap ∧ va_D (va_A ws H.size) (ws' u)) (va_A ws H.size) a9) (va_A ws H.size))
    (hw : Lv D cl tys A H0 ws s H locs) (hA : ∀ q, H0.size ≤ q → A q)
    (kk : ∀ (u : S) (H1 : Heap) (locs1 : List Loc), post u → Lv D cl tys A H0 (ws' u) s H1 locs1 → W p l e R s m args below meth c H1 locs1 (cells + mc) (slots + ms) Q (F0 m (pc + 3) ls rest)) : W p l e R s m args below meth c H locs cells slots Q (F0 m pc ls st0) := by
  obtain ⟨hP, hK, hD, hS⟩ := hw
  have hF : ∀ q, va_A ws H.size q → A q := fun q h => h.elim (fun ⟨k, e, hk⟩ => hD.2 k (q, e) hk) (fun h => hA q (Nat.le_trans hS.1 h))
  refine va_callv hr hS (fun q _ h => hF q h) hF (fun u t H1 locs1 ht hvm hp hB hz hk hS1 => ?_)
  obtain ⟨hP1, hD1⟩ := hB
  rw [ht] at hP1
  exact kk u H1 locs1 hp ⟨hP1, hK, hD1.weaken (fun _ _ _ h => hF _ h), hS1⟩
theorem q_runW {wl0 : List Cond} {Qc : Array Value → State → Outcome → State → Prop} {free : Addr → Prop} (S0 : CallFix p m c cc nL s args Ts own) (hM : Met l y wl0 rm (PrN D cl tys (.ref b :: As) ws H.size) Qc mc ms free) (cw : CallB R s args own index y bytes maxL none wl0 rm mc ms n ∧ y.name = "<init>" ∧ (Cond.instanceMethod y).before args s = true) (hw : Lv D cl tys A H0 ws s H locs) (hN : NW s) (hn : As.length = n) (hsize : ls.size = nL) (hst : st0 = As.reverse ++ .ref b :: rest) (hW : (rest.map fun v => v.category).sum ≤ 8) (hdg : decode cc pc = .ok (.invokespecial index, 3)) (hf : cells + mc ≤ R.cells ∧ slots + ms ≤ R.slots) :
    va_Run p l e R s m args below meth c H locs cells slots mc ms (F0 m pc ls st0) rest (Qc (Value.ref b :: As).toArray) free :=
  va_runI (g := F0 m pc ls st0) S0 hM cw ⟨PrN.blind, hw.preW hN⟩ rfl hn hsize hst (lv_room (pc := pc) (ls := ls) (rest := st0) hW) hdg hf
theorem q_runWN {host : String} {wl0 : List Cond} {Qc : Array Value → State → Outcome → State → Prop} {free : Addr → Prop} (S0 : CallFix p m c cc nL s args Ts own) (hM : Met l y wl0 rm (PrN D cl tys (.ref b :: As) ws H.size) Qc mc ms free) (cw : va_CN R s args own index y host bytes maxL none wl0 rm mc ms n ∧ y.name = "<init>" ∧ (Cond.instanceMethod y).before args s = true) (hw : Lv D cl tys A H0 ws s H locs) (hN : NW s) (hn : As.length = n) (hsize : ls.size = nL) (hst : st0 = As.reverse ++ .ref b :: rest) (hW : (rest.map fun v => v.category).sum ≤ 8) (hdg : decode cc pc = .ok (.invokespecial index, 3)) (hf : cells + mc ≤ R.cells ∧ slots + ms ≤ R.slots) :
    va_Run p l e R s m args below meth c H locs cells slots mc ms (F0 m pc ls st0) rest (Qc (Value.ref b :: As).toArray) free :=
  va_runIN (g := F0 m pc ls st0) S0 hM cw ⟨PrN.blind, hw.preW hN⟩ rfl hn hsize hst (lv_room (pc := pc) (ls := ls) (rest := st0) hW) hdg hf
/-- the frame rule for constructors -/
theorem Cn.front {S : Type} {wl0 : List Cond} {ws' : S → va_W} {post : S → Prop} (h : Cn l y wl0 rm D cl tys av ws sz ws' post mc ms) (Y : va_W) : Cn l y wl0 rm D cl tys av (ws ++ Y) sz (fun u => ws' u ++ Y) post mc ms := by
  have hin : ∀ q, va_A ws sz q → va_A (ws ++ Y) sz q := fun q hq => hq.elim (fun ⟨k, e, hk⟩ => Or.inl ⟨k, e, by rw [List.getElem?_append_left (List.getElem?_eq_some_iff.mp hk).1]; exact hk⟩) Or.inr
  have hl : ∀ (k : Nat) (q : Nat × va_E), ws[k]? = some q → (ws ++ Y)[id k]? = some q := fun k q hk => by show (ws ++ Y)[k]? = some q; rw [List.getElem?_append_left (List.getElem?_eq_some_iff.mp hk).1]; exact hk
  refine Met.mono h (fun a s hp => ⟨hp.1, hp.2.1, hp.2.2.1.by id hl, hp.2.2.2.1, hp.2.2.2.2.1.by id hl (fun i j _ _ e => e), hp.2.2.2.2.2⟩) (fun a s o t hp hq => ?_) hin
  obtain ⟨⟨u, ho, hpo, hP1, hD1⟩, hz, hk⟩ := hq
  obtain ⟨-, hsz, hP, -, hD, -⟩ := hp
  have hr : ∀ (k : Nat) (q : Nat × va_E), Y[k]? = some q → (ws ++ Y)[ws.length + k]? = some q := fun k q hkq => by rw [List.getElem?_append_right (Nat.le_add_right _ _), Nat.add_sub_cancel_left]; exact hkq
  have hY : ∀ (k : Nat) (q : Nat × va_E), Y[k]? = some q → ¬ va_A ws sz q.1 := by
    intro k q hkq hA
    rcases hA with ⟨i, e, hi⟩ | hA
    · have h1 := hD.1 i (ws.length + k) _ _ (hl i _ hi) (hr k q hkq) rfl
      have h2 := (List.getElem?_eq_some_iff.mp hi).1
      omega
    · have h1 := (hP _ q (hr k q hkq)).lt
      rw [hsz] at h1
      omega
  refine ⟨⟨u, ho, hpo, hP1.app (fun k q hkq => (hP _ q (hr k q hkq)).kept (hk q.1 (hP _ q (hr k q hkq)).lt (hY k q hkq))), (hD1.weaken (fun _ _ _ h => hin _ h)).app ⟨fun i j p q hi hj e => ?_, fun k q hkq => Or.inl ⟨ws.length + k, q.2, hr k q hkq⟩⟩ (fun i j p q hi hj e => ?_)⟩, hz, fun q h1 h2 => hk q h1 (fun h3 => h2 (hin q h3))⟩
  · have := hD.1 (ws.length + i) (ws.length + j) p q (hr i p hi) (hr j q hj) e
    omega
  · exact hY j q hj (by rw [← e]; exact hD1.2 i p hi)
theorem Lv.arr {n : Nat} {cA : ClassId} {f g : Nat → Option Nat} (hw : Lv D cl tys A H0 ws s H locs) (i : Nat) (hi : ws[i]? = some (a, .inl (cA, n, .inr (.inr (.inr (.inr f)))))) (hE : ∀ j, j < n → f j = g j) : Lv D cl tys A H0 (ws.set i (a, .inl (cA, n, .inr (.inr (.inr (.inr g)))))) s H locs := by
  have h1 : vp_cell cA (n, .inr (.inr (.inr (.inr f)))) = vp_cell cA (n, .inr (.inr (.inr (.inr g)))) := by
    rw [vp_cell_q, vp_cell_q]
    unfold arrV
    congr 1
    congr 1
    funext j
    show va_rf (f j.val) = va_rf (g j.val)
    rw [hE j.val j.isLt]
  refine ⟨hw.1.set hw.2.2.1 hi ?_ (fun _ _ => rfl), hw.2.1, hw.2.2.1.set hi, hw.2.2.2⟩
  have h2 : H[a]? = some (vp_cell cA (n, .inr (.inr (.inr (.inr f))))) := hw.1 i _ hi
  rw [h1] at h2
  exact h2
theorem Lv.perm {ws1 : va_W} (hw : Lv D cl tys A H0 ws s H locs) (h : ws.Perm ws1) : Lv D cl tys A H0 ws1 s H locs := by
  have hm : ∀ (k : Nat) (q : Nat × va_E), ws1[k]? = some q → ∃ i : Nat, ws[i]? = some q := fun k q hk => List.getElem?_of_mem (h.mem_iff.mpr (List.mem_of_getElem? hk))
  have nd : (ws.map (fun q => q.1)).Nodup := List.pairwise_iff_getElem.mpr (fun i j hi hj hij e => by
    rw [List.getElem_map, List.getElem_map] at e
    rw [List.length_map] at hi hj
    have := hw.2.2.1.1 i j _ _ (List.getElem?_eq_getElem hi) (List.getElem?_eq_getElem hj) e
    omega)
  have nd1 : (ws1.map (fun q => q.1)).Nodup := (h.map _).nodup_iff.mp nd
  have key : ∀ (i j : Nat) (p q : Nat × va_E), ws1[i]? = some p → ws1[j]? = some q → p.1 = q.1 → ¬ i < j := by
    intro i j p q hi hj e hij
    obtain ⟨li, ei⟩ := List.getElem?_eq_some_iff.mp hi
    obtain ⟨lj, ej⟩ := List.getElem?_eq_some_iff.mp hj
    exact absurd (by rw [List.getElem_map, List.getElem_map, ei, ej]; exact e) (List.pairwise_iff_getElem.mp nd1 i j (by rw [List.length_map]; exact li) (by rw [List.length_map]; exact lj) hij)
  refine ⟨fun k q hk => ?_, hw.2.1, ⟨fun i j p q hi hj e => ?_, fun k q hk => ?_⟩, hw.2.2.2⟩
  · obtain ⟨i, hi⟩ := hm k q hk
    exact hw.1 i q hi
  · rcases Nat.lt_trichotomy i j with h1 | h1 | h1
    · exact absurd h1 (key i j p q hi hj e)
    · exact h1
    · exact absurd h1 (key j i q p hj hi e.symm)
  · obtain ⟨i, hi⟩ := hm k q hk
    exact hw.2.2.1.2 i q hi
end QN
theorem jus_0 (k : Int32) : jus 0 k = 0 := by
  unfold jus
  apply Int32.toBitVec_inj.mp
  show (0#32 >>> _) = 0#32
  simp
theorem MI_0 {lines held : Nat → Int32} (hl : ∀ j, j < 32 → lines j = -1) (hh : ∀ j, j < 8 → held j = -1) : MI (fun _ => 0) (fun _ => 0) (fun _ => 0) (fun _ => false) (fun _ => 0) held (fun _ => 0) (fun _ => false) lines (fun _ => 0) (fun _ => 0) (fun _ => 0) := by
  refine ⟨fun s hs => Or.inl (hl s hs), fun i j hi _ _ h => absurd (hl i hi) h, fun j _ => Or.inl rfl, fun j hj => Or.inl ⟨hh j hj, rfl⟩, fun n _ => ⟨0, by decide, rfl⟩, fun _ _ _ => rfl, fun s n hs hn h => ?_, fun n hn _ => ⟨fun _ _ => rfl, ?_⟩⟩
  · rw [hl s hs] at h
    exact absurd h.symm (nI_neg (by omega))
  · rw [tSeen_row]
    have : sRow (fun _ => (0 : Int32)) held (fun _ => 0) (n / 8) = 0 := by
      unfold sRow
      split <;> rfl
    rw [this, jus_0]
    rfl
theorem fill_s {f : Nat → Int32} {z : Nat} {v : Int32} (h : ∀ j, j < z → f j = v) : ∀ j, j < z + 1 → upd f z v j = v := by
  intro j hj
  by_cases q : j = z
  · simp [upd, q]
  · simp [upd, q]
    exact h j (by omega)
theorem cap_0 : cbase 1000194 0 = 0 ∧ ctop 1000194 0 = 4294967296 := by decide +kernel
theorem ins_0 : iOp 0 = 0 ∧ iRd 0 = 0 ∧ iFn 0 = 0 ∧ iR1 0 = 0 ∧ iR2 0 = 0 ∧ iNb 0 = 0 ∧ iIm 0 = 0 := by decide +kernel
/-- a pool under way -/
def cpl (reg : Nat → Nat) (n : Nat) : va_W := (List.range n).map (fun k => (reg k, capC false 0 1000194 0 4294967296))
theorem cpl_s (reg : Nat → Nat) (n q : Nat) : cpl reg n ++ [(q, capC false 0 1000194 0 4294967296)] = cpl (va_up reg n q) (n + 1) := by
  unfold cpl
  rw [List.range_succ, List.map_append]
  congr 1
  · apply List.map_congr_left
    intro k hk
    rw [va_up_ne _ _ (show k ≠ n by have := List.mem_range.mp hk; omega)]
  · show _ = [(va_up reg n q n, _)]
    rw [va_up_self]
/-- addresses by their number -/
def adF (l : List Nat) : Nat → Nat := fun k => l.getD k 0
theorem pool_I {f : Nat → Option Nat} {reg : Nat → Nat} {k q : Nat} (h : ∀ j, j < k → f j = some (reg j)) : ∀ j, j < k + 1 → va_up f k (some q) j = some (va_up reg k q j) := by
  intro j hj
  by_cases e : j = k
  · subst e
    rw [va_up_self, va_up_self]
  · rw [va_up_ne _ _ e, va_up_ne _ _ e, h j (by omega)]
/-- the pool's addresses out of its five parts -/
def rgF (r1 : Nat → Nat) (a b c : Nat) (r2 : Nat → Nat) : Nat → Nat := fun k => if k < 37 then r1 k else if k = 37 then a else if k = 38 then b else if k = 39 then c else r2 (k - 40)
theorem rg_1 {r1 : Nat → Nat} {a b c : Nat} {r2 : Nat → Nat} {k : Nat} (h : k < 37) : rgF r1 a b c r2 k = r1 k := if_pos h
theorem rg_2 (r1 : Nat → Nat) (a b c : Nat) (r2 : Nat → Nat) (k : Nat) : rgF r1 a b c r2 (40 + k) = r2 k := by
  unfold rgF
  rw [if_neg (by omega), if_neg (by omega), if_neg (by omega), if_neg (by omega), Nat.add_sub_cancel_left]
theorem r48 : List.range 48 = List.range 37 ++ ([37, 38, 39] ++ (List.range 8).map (fun k => 40 + k)) := by decide +kernel
theorem cap_n : capE (false, 0, 1000194) = capC false 0 1000194 0 4294967296 := by
  obtain ⟨e1, e2⟩ := cap_0
  show capC false 0 1000194 (cbase 1000194 0) (ctop 1000194 0) = _
  rw [e1, e2]
theorem cpool_cut (r1 : Nat → Nat) (a b c : Nat) (r2 : Nat → Nat) : cpool (rgF r1 a b c r2) (fun _ => (false, 0, 1000194)) = cpl r1 37 ++ ([(a, capC false 0 1000194 0 4294967296), (b, capC false 0 1000194 0 4294967296), (c, capC false 0 1000194 0 4294967296)] ++ cpl r2 8) := by
  unfold cpool cpl
  have e1 : (List.range 37).map (fun k => (rgF r1 a b c r2 k, capE (false, 0, 1000194))) = (List.range 37).map (fun k => (r1 k, capC false 0 1000194 0 4294967296)) := List.map_congr_left (fun k hk => by rw [rg_1 (List.mem_range.mp hk), cap_n])
  have e3 : (List.range 8).map ((fun k => (rgF r1 a b c r2 k, capE (false, 0, 1000194))) ∘ (fun k => 40 + k)) = (List.range 8).map (fun k => (r2 k, capC false 0 1000194 0 4294967296)) := List.map_congr_left (fun k _ => by
    show (rgF r1 a b c r2 (40 + k), capE (false, 0, 1000194)) = _
    rw [rg_2, cap_n])
  rw [r48, List.map_append, List.map_append, List.map_map, e1, e3]
  show _ ++ ([(a, capE (false, 0, 1000194)), (b, capE (false, 0, 1000194)), (c, capE (false, 0, 1000194))] ++ _) = _
  rw [cap_n]
theorem core_perm {A B K P1 P2 M C : va_W} (e : A = M ++ C) : ((A ++ (B ++ K)) ++ (P1 ++ P2)).Perm ((M ++ (C ++ (P1 ++ (B ++ P2)))) ++ K) := by
  subst e
  simp only [List.append_assoc]
  refine List.Perm.append_left M (List.Perm.append_left C ?_)
  refine (List.Perm.append_left B List.perm_append_comm).trans ?_
  simp only [List.append_assoc]
  exact List.perm_append_comm_assoc B P1 (P2 ++ K)
theorem gTag_0 (i : Nat) : gTag (fun _ => 0) i = false := by
  unfold gTag
  rw [Int32.zero_and, if_pos rfl]
theorem tb_1_28 : (Jvm.Cond.instanceMethod ({ cls := "java/lang/Object", name := "<init>", desc := "()V" } : Jvm.MethodName)) ∈ TB := tbm_1 (List.mem_of_getElem? (i := 28) (by decide +kernel))
theorem tb_1_29 : (Jvm.Cond.code ({ cls := "java/lang/Object", name := "<init>", desc := "()V" } : Jvm.MethodName) object_method_1_code (1 : Nat) (Option.none : Option Jvm.ClassFile.FieldType)) ∈ TB := tbm_1 (List.mem_of_getElem? (i := 29) (rfl))
