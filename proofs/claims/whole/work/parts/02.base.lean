/-! Base rows of our own: a world carried in one hypothesis (Lv), contracts that read (Cr) or write (Cg) a world without making cells, the frame rule for them. -/
def jb (b : Bool) : Int32 := if b then 1 else 0
def jus (x y : Int32) : Int32 := (x.toUInt32 >>> (y.toUInt32 &&& Int32.toUInt32 31)).toInt32
def jul (x : Int64) (y : Int32) : Int64 := (x.toUInt64 >>> (y.toInt64.toUInt64 &&& Int64.toUInt64 63)).toInt64
def jsl (x : Int64) (y : Int32) : Int64 := x <<< (y.toInt64 &&& 63)
def jsr (x : Int64) (y : Int32) : Int64 := x >>> (y.toInt64 &&& 63)
theorem jb_nar (b : Bool) : narrow .boolean (.int (jb b)) = .int (jb b) := by cases b <;> rfl
theorem jb_fit (b : Bool) : fits .boolean (.int (jb b)) = true := by cases b <;> rfl
theorem jb_vp (b : Bool) : vp_nar .boolean (jb b) = jb b := by cases b <;> rfl
theorem jb_0 {b : Bool} (h : jb b = 0) : b = false := by cases b; rfl; exact absurd h (by decide)
theorem jb_1 {b : Bool} (h : ¬ jb b = 0) : b = true := by cases b; exact absurd rfl h; rfl
/-- the places of a world -/
def qIn (ws : va_W) : Nat → Prop := fun q => ∃ (k : Nat) (e : va_E), ws[k]? = some (q, e)
/-- a world on a walk: the heap holds it, the tables know it, its cells are apart, nothing else has changed -/
def Lv (D : va_G) (cl : List vw_C) (tys : List (ClassId × FieldType)) (A : Nat → Prop) (H0 : Heap) (ws : va_W) (s : State) (H : Heap) (locs : List Loc) : Prop :=
  va_P D cl ws H ∧ va_K D cl tys s ∧ va_D A ws ∧ va_S A H0 H locs
def Pr (D : va_G) (cl : List vw_C) (tys : List (ClassId × FieldType)) (av : List Value) (ws : va_W) : Array Value → State → Prop :=
  fun v U => v = av.toArray ∧ va_P D cl ws U.heap ∧ va_K D cl tys U ∧ va_D (fun _ => True) ws
def Rd (v : Option Value) : Array Value → State → Outcome → State → Prop := fun _ st oc t => oc = .returned v ∧ t.heap = st.heap
def Gh {S : Type} (D : va_G) (cl : List vw_C) (ws : va_W) (v : S → Option Value) (ws' : S → va_W) (post : S → Prop) : Array Value → State → Outcome → State → Prop :=
  fun _ st oc t => (∃ u : S, oc = .returned (v u) ∧ post u ∧ va_P D cl (ws' u) t.heap) ∧ va_F (qIn ws) st t
/-- a contract that reads -/
def Cr (l : Launch) (y : MethodName) (wl : List Cond) (rm : Room) (D : va_G) (cl : List vw_C) (tys : List (ClassId × FieldType)) (av : List Value) (ws : va_W) (v : Option Value) : Prop :=
  Met l y wl rm (Pr D cl tys av ws) (Rd v) 0 0 (fun _ => False)
/-- a contract that writes -/
def Cg {S : Type} (l : Launch) (y : MethodName) (wl : List Cond) (rm : Room) (D : va_G) (cl : List vw_C) (tys : List (ClassId × FieldType)) (av : List Value) (ws : va_W) (v : S → Option Value) (ws' : S → va_W) (post : S → Prop) : Prop :=
  Met l y wl rm (Pr D cl tys av ws) (Gh D cl ws v ws' post) 0 0 (qIn ws)
theorem Pr.blind {D : va_G} {cl : List vw_C} {tys : List (ClassId × FieldType)} {av : List Value} {ws : va_W} : FrameBlind (Pr D cl tys av ws) :=
  fun a U g mk q => ⟨q.1, q.2.1, va_K.moved (u := U) (U := U.calling g mk a) (Vm.Alike.refl U.vm) q.2.2.1, q.2.2.2⟩
theorem Lv.pre {D : va_G} {cl : List vw_C} {tys : List (ClassId × FieldType)} {av : List Value} {ws : va_W} {A : Nat → Prop} {H0 H : Heap} {locs : List Loc} {s : State} (hw : Lv D cl tys A H0 ws s H locs) : ∀ U : State, U.heap = H → s.WarmedH U.vm → Pr D cl tys av ws av.toArray U :=
  fun U hU hW => ⟨rfl, by rw [hU]; exact hw.1, va_K.moved hW.alike hw.2.1, hw.2.2.1.weaken (fun _ _ _ _ => trivial)⟩
theorem Met.mono {l : Launch} {y : MethodName} {ws : List Cond} {rm : Room} {Pc Pc' : Array Value → State → Prop} {Qc Qc' : Array Value → State → Outcome → State → Prop} {mc ms : Nat} {free free' : Addr → Prop}
    (h : Met l y ws rm Pc Qc mc ms free) (hp : ∀ a s, Pc' a s → Pc a s) (hq : ∀ a s o t, Pc' a s → Qc a s o t → Qc' a s o t) (hf : ∀ q, free q → free' q) : Met l y ws rm Pc' Qc' mc ms free' := by
  intro p e ha hc hk s m args below hfr happ hP hK
  obtain ⟨n, o, h1, h2, h3, h4, L, h5, h6⟩ := h p e ha hc hk s m args below hfr happ (hp _ _ hP) hK
  exact ⟨n, o, h1, h2, h3, hq _ _ _ _ hP h4, L, h5, fun q hq => hf _ (h6 q hq)⟩
/-- the frame rule: a contract on a world holds on every larger one; g says where its cells lie there -/
theorem Cg.emb {S : Type} {l : Launch} {y : MethodName} {wl : List Cond} {rm : Room} {D : va_G} {cl : List vw_C} {tys : List (ClassId × FieldType)} {av : List Value} {ws : va_W} {v : S → Option Value} {ws' : S → va_W} {post : S → Prop}
    (h : Cg l y wl rm D cl tys av ws v ws' post) (B : va_W) (B' : S → va_W) (g : Nat → Nat) (hg : ∀ (k : Nat) (q : Nat × va_E), ws[k]? = some q → B[g k]? = some q) (hi : ∀ i j : Nat, i < ws.length → j < ws.length → g i = g j → i = j)
    (hB : ∀ (u : S) (k : Nat) (q : Nat × va_E), (B' u)[k]? = some q → (∃ i : Nat, (ws' u)[i]? = some q) ∨ (B[k]? = some q ∧ ∀ i, i < ws.length → g i ≠ k)) : Cg l y wl rm D cl tys av B v B' post := by
  have hin : ∀ q, qIn ws q → qIn B q := fun q ⟨k, e, hk⟩ => ⟨g k, e, hg k _ hk⟩
  refine Met.mono h (fun a s hp => ⟨hp.1, hp.2.1.by g hg, hp.2.2.1, hp.2.2.2.by g hg hi⟩) (fun a s o t hp hq => ?_) hin
  obtain ⟨⟨u, ho, hpo, hP⟩, hz, hk⟩ := hq
  refine ⟨⟨u, ho, hpo, fun k q hkq => ?_⟩, hz, fun q h1 h2 => hk q h1 (fun h3 => h2 (hin q h3))⟩
  rcases hB u k q hkq with ⟨i, hi'⟩ | ⟨h1, h2⟩
  · exact hP i q hi'
  · refine (hp.2.1 k q h1).kept (hk q.1 (hp.2.1 k q h1).lt (fun ⟨j, e, hj⟩ => ?_))
    have h3 := hg j _ hj
    exact h2 j (List.getElem?_eq_some_iff.mp hj).1 (hp.2.2.2.1 (g j) k _ _ h3 h1 rfl)
theorem Cr.emb {l : Launch} {y : MethodName} {wl : List Cond} {rm : Room} {D : va_G} {cl : List vw_C} {tys : List (ClassId × FieldType)} {av : List Value} {ws : va_W} {v : Option Value}
    (h : Cr l y wl rm D cl tys av ws v) (B : va_W) (g : Nat → Nat) (hg : ∀ (k : Nat) (q : Nat × va_E), ws[k]? = some q → B[g k]? = some q) (hi : ∀ i j : Nat, i < ws.length → j < ws.length → g i = g j → i = j) : Cr l y wl rm D cl tys av B v :=
  Met.mono h (fun a s hp => ⟨hp.1, hp.2.1.by g hg, hp.2.2.1, hp.2.2.2.by g hg hi⟩) (fun _ _ _ _ _ hq => hq) (fun _ h => h)
theorem Lv.same {D : va_G} {cl : List vw_C} {tys : List (ClassId × FieldType)} {ws ws' : va_W} {A : Nat → Prop} {H0 H : Heap} {locs : List Loc} {s : State} (hw : Lv D cl tys A H0 ws s H locs) (h : ws = ws') : Lv D cl tys A H0 ws' s H locs := h ▸ hw
theorem qD_same {A : Nat → Prop} {ws ws' : va_W} (hD : va_D A ws) (h : ws'.map (fun q => q.1) = ws.map (fun q => q.1)) : va_D A ws' := by
  have at' : ∀ (k : Nat) (q : Nat × va_E), ws'[k]? = some q → ∃ e, ws[k]? = some (q.1, e) := by
    intro k q hk
    have h1 : (ws'.map (fun q => q.1))[k]? = some q.1 := by rw [List.getElem?_map, hk]; rfl
    rw [h, List.getElem?_map] at h1
    cases hw : ws[k]? with
    | none => rw [hw] at h1; cases h1
    | some p => rw [hw] at h1; obtain ⟨a, e⟩ := p; have h2 : a = q.1 := Option.some.inj h1; subst h2; exact ⟨e, rfl⟩
  refine ⟨fun i j p q hp hq e => ?_, fun k q hk => ?_⟩
  · obtain ⟨e1, h1⟩ := at' i p hp
    obtain ⟨e2, h2⟩ := at' j q hq
    exact hD.1 i j _ _ h1 h2 e
  · obtain ⟨e1, h1⟩ := at' k q hk
    exact hD.2 k (q.1, e1) h1
section QB
variable {p : Program} {l : Launch} {e : Env} {R : Room} {s : State} {m : MethodId} {args : Array Value} {below : List Frame} {meth : Method} {c : Code} {H : Heap} {locs : List Loc} {cells slots : Nat} {Q : State → Prop}
variable {cc : ByteArray} {pc nL : Nat} {ls : Array Slot} {rest st0 : List Value} {D : va_G} {cl : List vw_C} {A : Nat → Prop} {a : Nat} {tys : List (ClassId × FieldType)} {ws ws0 : va_W} {H0 : Heap} {Ts : List Cond} {own : String}
variable {y : MethodName} {bytes : ByteArray} {maxL mc ms n index : Nat} {ret : Option FieldType} {wl0 : List Cond} {rm : Room} {Pc : Array Value → State → Prop} {Qc : Array Value → State → Outcome → State → Prop} {free : Addr → Prop} {C : String} {b : Addr} {As av : List Value}
/-- the entry of a contract that writes -/
theorem Cg.of {S : Type} {v : S → Option Value} {ws' : S → va_W} {post : S → Prop} (hy : plainName y.cls = true) (hlen : (lg_sl av).length ≤ maxL)
    (body : ∀ (p : Program) (e : Env) (s : State) (m : MethodId) (below : List Frame) (meth : Method) (c : Code) (ls : Array Slot), CallFix p m c cc maxL s av.toArray TB y.cls → meth.sig.returnType = ret → meth.locks = false → lv_has ls maxL (lv_args 0 av) → Lv D cl tys (qIn ws) s.heap ws s s.heap [] →
      W p l e rm s m av.toArray below meth c s.heap [] 0 0 (MQ below (Gh D cl ws v ws' post) av.toArray s 0 0 (qIn ws)) (F0 m 0 ls [])) : Cg l y (wl y cc maxL ret) rm D cl tys av ws v ws' post := by
  refine Met.ofW (cc := cc) (maxL := maxL) (ret := ret) hy rfl ?_
  intro p e s m args below meth c s₁ B hml hv
  obtain ⟨rfl, hP, hK, hD⟩ := hv
  have hl := lv_entry av (n := maxL) hlen
  rw [lg_entry_eq]
  exact body p e s m below meth c _ ⟨B.exec, B.bytes, hml, findClass_of_methodNamed B.named, fun w hw => atoms_spec (ws := wl y cc maxL ret) B.pre w (List.mem_cons_of_mem _ hw)⟩ B.returns B.notSynchronized hl ⟨hP, hK, ⟨hD.1, fun k q hk => ⟨k, q.2, hk⟩⟩, va_S.rf⟩
/-- the entry of a contract that reads -/
theorem Cr.of {v : Option Value} (hy : plainName y.cls = true) (hlen : (lg_sl av).length ≤ maxL)
    (body : ∀ (p : Program) (e : Env) (s : State) (m : MethodId) (below : List Frame) (meth : Method) (c : Code) (ls : Array Slot), CallFix p m c cc maxL s av.toArray TB y.cls → meth.sig.returnType = ret → meth.locks = false → lv_has ls maxL (lv_args 0 av) → Lv D cl tys (qIn ws) s.heap ws s s.heap [] →
      W p l e rm s m av.toArray below meth c s.heap [] 0 0 (MQ below (Rd v) av.toArray s 0 0 (fun _ => False)) (F0 m 0 ls [])) : Cr l y (wl y cc maxL ret) rm D cl tys av ws v := by
  refine Met.ofW (cc := cc) (maxL := maxL) (ret := ret) hy rfl ?_
  intro p e s m args below meth c s₁ B hml hv
  obtain ⟨rfl, hP, hK, hD⟩ := hv
  have hl := lv_entry av (n := maxL) hlen
  rw [lg_entry_eq]
  exact body p e s m below meth c _ ⟨B.exec, B.bytes, hml, findClass_of_methodNamed B.named, fun w hw => atoms_spec (ws := wl y cc maxL ret) B.pre w (List.mem_cons_of_mem _ hw)⟩ B.returns B.notSynchronized hl ⟨hP, hK, ⟨hD.1, fun k q hk => ⟨k, q.2, hk⟩⟩, va_S.rf⟩
/-- ends of a contract that writes -/
theorem Lv.riz {S : Type} {v : S → Option Value} {ws' : S → va_W} {post : S → Prop} {x : Int32} {ty : FieldType} (hw : Lv D cl tys (qIn ws0) s.heap ws s H locs) (S0 : CallFix p m c cc nL s args Ts own) (hr : meth.sig.returnType = some ty) (hlk : meth.locks = false) (hn : narrow ty (.int x) = .int x) (hdg : decode cc pc = .ok (.ireturn, 1)) (u : S) (hv : v u = some (.int x)) (hp : post u) (hws : ws = ws' u) :
    W p l e R s m args below meth c H locs cells slots (MQ below (Gh D cl ws0 v ws' post) args s cells slots (qIn ws0)) (F0 m pc ls [.int x]) := by
  subst hws
  obtain ⟨hP, hK, hD, hS⟩ := hw
  exact W.zret S0.1 S0.2.1 hr hn (fun t ht hW => ⟨⟨u, by rw [hv], hp, by rw [ht]; exact hP⟩, hS.F ht⟩) hS.2.2 hdg hlk
theorem Lv.rl {S : Type} {v : S → Option Value} {ws' : S → va_W} {post : S → Prop} {x : Int64} (hw : Lv D cl tys (qIn ws0) s.heap ws s H locs) (S0 : CallFix p m c cc nL s args Ts own) (hr : meth.sig.returnType = some .long) (hlk : meth.locks = false) (hdg : decode cc pc = .ok (.lreturn, 1)) (u : S) (hv : v u = some (.long x)) (hp : post u) (hws : ws = ws' u) :
    W p l e R s m args below meth c H locs cells slots (MQ below (Gh D cl ws0 v ws' post) args s cells slots (qIn ws0)) (F0 m pc ls [.long x]) := by
  subst hws
  obtain ⟨hP, hK, hD, hS⟩ := hw
  exact W.lret S0.1 S0.2.1 hr (fun t ht hW => ⟨⟨u, by rw [hv], hp, by rw [ht]; exact hP⟩, hS.F ht⟩) hS.2.2 hdg hlk
theorem Lv.rv {S : Type} {v : S → Option Value} {ws' : S → va_W} {post : S → Prop} (hw : Lv D cl tys (qIn ws0) s.heap ws s H locs) (S0 : CallFix p m c cc nL s args Ts own) (hr : meth.sig.returnType = none) (hlk : meth.locks = false) (hdg : decode cc pc = .ok (.return_, 1)) (u : S) (hv : v u = none) (hp : post u) (hws : ws = ws' u) :
    W p l e R s m args below meth c H locs cells slots (MQ below (Gh D cl ws0 v ws' post) args s cells slots (qIn ws0)) (F0 m pc ls []) := by
  subst hws
  obtain ⟨hP, hK, hD, hS⟩ := hw
  exact W.vret S0.1 S0.2.1 hr (fun t ht hW => ⟨⟨u, by rw [hv], hp, by rw [ht]; exact hP⟩, hS.F ht⟩) hS.2.2 hdg hlk
theorem Lv.ra {S : Type} {v : S → Option Value} {ws' : S → va_W} {post : S → Prop} {x : Nat} {ty : String} (hw : Lv D cl tys (qIn ws0) s.heap ws s H locs) (S0 : CallFix p m c cc nL s args Ts own) (hr : meth.sig.returnType = some (.object ty)) (hlk : meth.locks = false) (hdg : decode cc pc = .ok (.areturn, 1)) (u : S) (hv : v u = some (.ref x)) (hp : post u) (hws : ws = ws' u) :
    W p l e R s m args below meth c H locs cells slots (MQ below (Gh D cl ws0 v ws' post) args s cells slots (qIn ws0)) (F0 m pc ls [.ref x]) := by
  subst hws
  obtain ⟨hP, hK, hD, hS⟩ := hw
  exact W.aret S0.1 S0.2.1 hr (Or.inl ⟨_, rfl⟩) (Or.inr ⟨_, rfl⟩) (fun t ht hW => ⟨⟨u, by rw [hv], hp, by rw [ht]; exact hP⟩, hS.F ht⟩) hS.2.2 hdg hlk
/-- ends of a contract that reads -/
theorem rd_i {x z : Int32} {ty : FieldType} (S0 : CallFix p m c cc nL s args Ts own) (hr : meth.sig.returnType = some ty) (hlk : meth.locks = false) (hn : narrow ty (.int x) = .int x) (hdg : decode cc pc = .ok (.ireturn, 1)) (hx : x = z) :
    W p l e R s m args below meth c s.heap [] cells slots (MQ below (Rd (some (.int z))) args s cells slots (fun _ => False)) (F0 m pc ls [.int x]) := by
  subst hx
  exact W.zret S0.1 S0.2.1 hr hn (fun t ht hW => ⟨rfl, ht⟩) (fun q h => by cases h) hdg hlk
theorem rd_l {x z : Int64} (S0 : CallFix p m c cc nL s args Ts own) (hr : meth.sig.returnType = some .long) (hlk : meth.locks = false) (hdg : decode cc pc = .ok (.lreturn, 1)) (hx : x = z) :
    W p l e R s m args below meth c s.heap [] cells slots (MQ below (Rd (some (.long z))) args s cells slots (fun _ => False)) (F0 m pc ls [.long x]) := by
  subst hx
  exact W.lret S0.1 S0.2.1 hr (fun t ht hW => ⟨rfl, ht⟩) (fun q h => by cases h) hdg hlk
/-- behind a call -/
theorem q_cr {v : Option Value} {a9 : Array Value} (hr : va_Run p l e R s m args below meth c H locs cells slots 0 0 (F0 m pc ls st0) rest (Rd v a9) (fun _ => False))
    (kk : W p l e R s m args below meth c H locs cells slots Q (F0 m (pc + 3) ls (v.toList ++ rest))) : W p l e R s m args below meth c H locs cells slots Q (F0 m pc ls st0) := by
  intro T hT X
  obtain ⟨v', st₀, t, T', L, h0, X', hL, e1, e2, ⟨hv, hh⟩, st⟩ := hr T hT X
  cases hv
  obtain ⟨t2, a1, b1⟩ := kk T' (by rw [e1, hh, h0]) (Stand.forget X' (fun q h => (hL q h).elim))
  exact ⟨t2, st t2 a1, b1⟩
theorem q_cg {S : Type} {v : S → Option Value} {ws' : S → va_W} {post : S → Prop} {a9 : Array Value} (hr : va_Run p l e R s m args below meth c H locs cells slots 0 0 (F0 m pc ls st0) rest (Gh D cl ws v ws' post a9) (qIn ws))
    (hw : Lv D cl tys A H0 ws s H locs) (had : ∀ u, va_D A ws → va_D A (ws' u))
    (kk : ∀ (u : S) (H1 : Heap) (locs1 : List Loc), post u → Lv D cl tys A H0 (ws' u) s H1 locs1 → W p l e R s m args below meth c H1 locs1 cells slots Q (F0 m (pc + 3) ls ((v u).toList ++ rest))) : W p l e R s m args below meth c H locs cells slots Q (F0 m pc ls st0) := by
  intro T hT X
  obtain ⟨v', st₀, t, T', L, h0, X', hL, e1, e2, ⟨⟨u, hv, hp, hP1⟩, hz, hk⟩, st⟩ := hr T hT X
  cases hv
  rw [h0] at hz hk
  obtain ⟨hP, hK, hD, hS⟩ := hw
  have hsub : ∀ q, qIn ws q → A q := fun q ⟨k, e, h⟩ => hD.2 k (q, e) h
  obtain ⟨t2, a1, b1⟩ := kk u T'.heap (locs ++ L) hp ⟨by rw [e1]; exact hP1, hK, had u hD, ⟨Nat.le_trans hS.1 (by rw [e1]; exact hz), fun q h1 h2 => by
      rw [e1, hk q (Nat.lt_of_lt_of_le h1 hS.1) (fun z => h2 (hsub q z))]; exact hS.2.1 q h1 h2, fun q hq => by
      rcases List.mem_append.mp hq with h | h
      · exact hS.2.2 q h
      · exact hsub _ (hL q h)⟩⟩ T' rfl X'
  exact ⟨t2, st t2 a1, b1⟩
/-- fields and arrays -/
theorem q_get (S0 : CallFix p m c cc nL s args Ts own) (hw : Lv D cl tys A H0 ws s H locs) {ref : String} {T : u_T} {N ci : Nat} (hin : ∀ w ∈ u_ws C T N, w ∈ Ts) (q0 : Nat) {fs : List Value} (he : ws[q0]? = some (a, .inr (ci, fs))) (hc : cl[ci]? = some (C, T, N)) (k : Nat) (hk : k < N) (hlink : Cond.fieldLink own index ref (T k).2.1 (T k).2.2.1 ∈ Ts) (href : (T k).1 = ref) {v : Value} (hv : fs[k]? = some v) (hdg : decode cc pc = .ok (.getfield index, 3))
    (kk : W p l e R s m args below meth c H locs cells slots Q (F0 m (pc + 3) ls (v :: rest))) : W p l e R s m args below meth c H locs cells slots Q (F0 m pc ls (.ref a :: rest)) :=
  va_get S0.1 S0.2.1 S0.2.2.2.2 hin S0.2.2.2.1 hw.2.1 hw.1 q0 he hc k hk (S0.2.2.2.2 _ hlink) (fun x h => by rw [← href]; exact h) hv hdg kk
theorem q_put (S0 : CallFix p m c cc nL s args Ts own) (hw : Lv D cl tys A H0 ws s H locs) {ref : String} {T : u_T} {N ci : Nat} (hin : ∀ w ∈ u_ws C T N, w ∈ Ts) (ty0 : Nat → FieldType) (hty : ∀ k, k < N → parseFieldDescriptor (T k).2.2.1 = some (ty0 k)) (hnm : ∀ a, a < N → ∀ b, b < N → a ≠ b → (T a).2.1 ≠ (T b).2.1) (q0 : Nat) {fs : List Value} (he : ws[q0]? = some (a, .inr (ci, fs))) (hc : cl[ci]? = some (C, T, N)) (k : Nat) (hk : k < N) (hlink : Cond.fieldLink own index ref (T k).2.1 (T k).2.2.1 ∈ Ts) (href : (T k).1 = ref) (hfin : (T k).2.2.2 = false) {v : Value} (hn : narrow (ty0 k) v = v) (hfit : fits (ty0 k) v = true) (hl : k < fs.length) (hdg : decode cc pc = .ok (.putfield index, 3))
    (kk : ∀ (H1 : Heap) (locs1 : List Loc), Lv D cl tys A H0 (ws.set q0 (a, .inr (ci, fs.set k v))) s H1 locs1 → W p l e R s m args below meth c H1 locs1 cells slots Q (F0 m (pc + 3) ls rest)) : W p l e R s m args below meth c H locs cells slots Q (F0 m pc ls (v :: .ref a :: rest)) :=
  va_put S0.1 S0.2.1 S0.2.2.2.2 hin ty0 hty hnm S0.2.2.2.1 hw.2.1 hw.1 hw.2.2.1 hw.2.2.2 q0 he hc k hk (S0.2.2.2.2 _ hlink) (fun x h => by rw [← href]; exact h) hfin (hty k hk) hn hfit hl hdg (fun H1 locs1 h1 h2 h3 => kk H1 locs1 ⟨h1, hw.2.1, h2, h3⟩)
theorem q_iald (S0 : CallFix p m c cc nL s args Ts own) (hw : Lv D cl tys A H0 ws s H locs) (q0 t0 : Nat) {cA : ClassId} {f : Nat → Int32} (ha : ws[q0]? = some (a, .inl (cA, n, .inl f))) (ht : tys[t0]? = some (cA, .int)) {i : Int32} (hin : vp_in i n) (hdg : decode cc pc = .ok (.iaload, 1))
    (kk : W p l e R s m args below meth c H locs cells slots Q (F0 m (pc + 1) ls (.int (f i.toNatClampNeg) :: rest))) : W p l e R s m args below meth c H locs cells slots Q (F0 m pc ls (.int i :: .ref a :: rest)) :=
  va_iald S0.1 S0.2.1 hw.2.1 hw.1 q0 t0 ha ht hin hdg kk
theorem q_lald (S0 : CallFix p m c cc nL s args Ts own) (hw : Lv D cl tys A H0 ws s H locs) (q0 t0 : Nat) {cA : ClassId} {f : Nat → Int64} (ha : ws[q0]? = some (a, .inl (cA, n, .inr (.inl f)))) (ht : tys[t0]? = some (cA, .long)) {i : Int32} (hin : vp_in i n) (hdg : decode cc pc = .ok (.laload, 1))
    (kk : W p l e R s m args below meth c H locs cells slots Q (F0 m (pc + 1) ls (.long (f i.toNatClampNeg) :: rest))) : W p l e R s m args below meth c H locs cells slots Q (F0 m pc ls (.int i :: .ref a :: rest)) :=
  va_lald S0.1 S0.2.1 hw.2.1 hw.1 q0 t0 ha ht hin hdg kk
/-- boolean arrays hold truth values -/
theorem q_zald (S0 : CallFix p m c cc nL s args Ts own) (hw : Lv D cl tys A H0 ws s H locs) (q0 t0 : Nat) {cA : ClassId} {f : Nat → Bool} (ha : ws[q0]? = some (a, .inl (cA, n, .inl (fun j => jb (f j))))) (ht : tys[t0]? = some (cA, .boolean)) {i : Int32} (hin : vp_in i n) (hdg : decode cc pc = .ok (.baload, 1))
    (kk : W p l e R s m args below meth c H locs cells slots Q (F0 m (pc + 1) ls (.int (jb (f i.toNatClampNeg)) :: rest))) : W p l e R s m args below meth c H locs cells slots Q (F0 m pc ls (.int i :: .ref a :: rest)) :=
  va_zald S0.1 S0.2.1 hw.2.1 hw.1 q0 t0 ha ht hin hdg kk
theorem q_aald (S0 : CallFix p m c cc nL s args Ts own) (hw : Lv D cl tys A H0 ws s H locs) (q0 t0 : Nat) {cA : ClassId} {f : Nat → Nat} (ha : ws[q0]? = some (a, .inl (cA, n, .inr (.inr (.inr (.inr (fun j => some (f j)))))))) (ht : tys[t0]? = some (cA, .object C)) {i : Int32} (hin : vp_in i n) (hdg : decode cc pc = .ok (.aaload, 1))
    (kk : W p l e R s m args below meth c H locs cells slots Q (F0 m (pc + 1) ls (.ref (f i.toNatClampNeg) :: rest))) : W p l e R s m args below meth c H locs cells slots Q (F0 m pc ls (.int i :: .ref a :: rest)) :=
  va_aldq S0.1 S0.2.1 hw.2.1 hw.1 q0 t0 ha ht hin hdg kk
theorem q_iast (S0 : CallFix p m c cc nL s args Ts own) (hw : Lv D cl tys A H0 ws s H locs) (q0 t0 : Nat) {cA : ClassId} {f : Nat → Int32} (ha : ws[q0]? = some (a, .inl (cA, n, .inl f))) (ht : tys[t0]? = some (cA, .int)) {i x : Int32} (hin : vp_in i n) (hdg : decode cc pc = .ok (.iastore, 1))
    (kk : ∀ (H1 : Heap) (locs1 : List Loc), Lv D cl tys A H0 (ws.set q0 (a, .inl (cA, n, .inl (upd f i.toNatClampNeg x)))) s H1 locs1 → W p l e R s m args below meth c H1 locs1 cells slots Q (F0 m (pc + 1) ls rest)) : W p l e R s m args below meth c H locs cells slots Q (F0 m pc ls (.int x :: .int i :: .ref a :: rest)) :=
  va_iast S0.1 S0.2.1 hw.2.1 hw.1 hw.2.2.1 hw.2.2.2 q0 t0 ha ht hin hdg (fun H1 locs1 h1 h2 h3 => kk H1 locs1 ⟨h1, hw.2.1, h2, h3⟩)
theorem q_last (S0 : CallFix p m c cc nL s args Ts own) (hw : Lv D cl tys A H0 ws s H locs) (q0 t0 : Nat) {cA : ClassId} {f : Nat → Int64} (ha : ws[q0]? = some (a, .inl (cA, n, .inr (.inl f)))) (ht : tys[t0]? = some (cA, .long)) {i : Int32} {x : Int64} (hin : vp_in i n) (hdg : decode cc pc = .ok (.lastore, 1))
    (kk : ∀ (H1 : Heap) (locs1 : List Loc), Lv D cl tys A H0 (ws.set q0 (a, .inl (cA, n, .inr (.inl (vp_updL f i.toNatClampNeg x))))) s H1 locs1 → W p l e R s m args below meth c H1 locs1 cells slots Q (F0 m (pc + 1) ls rest)) : W p l e R s m args below meth c H locs cells slots Q (F0 m pc ls (.long x :: .int i :: .ref a :: rest)) :=
  va_last S0.1 S0.2.1 hw.2.1 hw.1 hw.2.2.1 hw.2.2.2 q0 t0 ha ht hin hdg (fun H1 locs1 h1 h2 h3 => kk H1 locs1 ⟨h1, hw.2.1, h2, h3⟩)
theorem jb_upd (f : Nat → Bool) (k : Nat) (x : Bool) : upd (fun j => jb (f j)) k (vp_nar .boolean (jb x)) = fun j => jb (va_up f k x j) := by
  funext j
  rw [jb_vp]
  by_cases h : j = k
  · simp [upd, va_up, h]
  · simp [upd, va_up, h]
theorem q_zast (S0 : CallFix p m c cc nL s args Ts own) (hw : Lv D cl tys A H0 ws s H locs) (q0 t0 : Nat) {cA : ClassId} {f : Nat → Bool} (ha : ws[q0]? = some (a, .inl (cA, n, .inl (fun j => jb (f j))))) (ht : tys[t0]? = some (cA, .boolean)) {i : Int32} (x : Bool) (hin : vp_in i n) (hdg : decode cc pc = .ok (.bastore, 1))
    (kk : ∀ (H1 : Heap) (locs1 : List Loc), Lv D cl tys A H0 (ws.set q0 (a, .inl (cA, n, .inl (fun j => jb (va_up f i.toNatClampNeg x j))))) s H1 locs1 → W p l e R s m args below meth c H1 locs1 cells slots Q (F0 m (pc + 1) ls rest)) : W p l e R s m args below meth c H locs cells slots Q (F0 m pc ls (.int (jb x) :: .int i :: .ref a :: rest)) := by
  refine va_zast S0.1 S0.2.1 hw.2.1 hw.1 hw.2.2.1 hw.2.2.2 q0 t0 ha ht hin hdg (fun H1 locs1 h1 h2 h3 => kk H1 locs1 ⟨?_, hw.2.1, ?_, h3⟩)
  · rw [jb_upd] at h1; exact h1
  · rw [jb_upd] at h2; exact h2
/-- branches on truth values -/
theorem q_ifz_eq (S0 : CallFix p m c cc nL s args Ts own) {x : Bool} {off : Int} {tgt : Nat} (hdg : decode cc pc = .ok (.ifCond .eq off, 3)) (ht : (pc : Int) + off = (tgt : Int))
    (kt : x = false → W p l e R s m args below meth c H locs cells slots Q (F0 m tgt ls rest)) (kf : x = true → W p l e R s m args below meth c H locs cells slots Q (F0 m (pc + 3) ls rest)) : W p l e R s m args below meth c H locs cells slots Q (F0 m pc ls (.int (jb x) :: rest)) :=
  lv_if_eq S0.1 S0.2.1 hdg ht (fun h => kt (jb_0 h)) (fun h => kf (jb_1 h))
theorem q_ifz_ne (S0 : CallFix p m c cc nL s args Ts own) {x : Bool} {off : Int} {tgt : Nat} (hdg : decode cc pc = .ok (.ifCond .ne off, 3)) (ht : (pc : Int) + off = (tgt : Int))
    (kt : x = true → W p l e R s m args below meth c H locs cells slots Q (F0 m tgt ls rest)) (kf : x = false → W p l e R s m args below meth c H locs cells slots Q (F0 m (pc + 3) ls rest)) : W p l e R s m args below meth c H locs cells slots Q (F0 m pc ls (.int (jb x) :: rest)) :=
  lv_if_ne S0.1 S0.2.1 hdg ht (fun h => kt (jb_1 h)) (fun h => kf (jb_0 h))
/-- calls -/
theorem q_runV (S0 : CallFix p m c cc nL s args Ts own) (hM : Met l y wl0 rm (Pr D cl tys (.ref b :: As) ws) Qc 0 0 free) (cw : CallW R s args own C index y bytes maxL ret wl0 rm 0 0 n) (hw : Lv D cl tys A H0 ws s H locs) (q0 : Nat) {T : u_T} {N ci : Nat} {fs : List Value} (he : ws[q0]? = some (b, .inr (ci, fs))) (hc : cl[ci]? = some (C, T, N)) (hn : As.length = n) (hsize : ls.size = nL) (hst : st0 = As.reverse ++ .ref b :: rest) (hW : (rest.map fun v => v.category).sum ≤ 8) (hdg : decode cc pc = .ok (.invokevirtual index, 3)) (hf : cells ≤ R.cells ∧ slots ≤ R.slots) :
    va_Run p l e R s m args below meth c H locs cells slots 0 0 (F0 m pc ls st0) rest (Qc (Value.ref b :: As).toArray) free :=
  va_runV (g := F0 m pc ls st0) S0 hM cw ⟨Pr.blind, va_recv hw.2.1 hw.1 hc he, hw.pre⟩ rfl hn hsize hst (lv_room (pc := pc) (ls := ls) (rest := st0) hW) hdg hf
theorem q_runVN {host : String} (S0 : CallFix p m c cc nL s args Ts own) (hM : Met l y wl0 rm (Pr D cl tys (.ref b :: As) ws) Qc 0 0 free) (cw : va_CN R s args own index y host bytes maxL ret wl0 rm 0 0 n ∧ (Cond.instanceMethod y).before args s = true ∧ (Cond.selects C y y).before args s = true) (hw : Lv D cl tys A H0 ws s H locs) (q0 : Nat) {T : u_T} {N ci : Nat} {fs : List Value} (he : ws[q0]? = some (b, .inr (ci, fs))) (hc : cl[ci]? = some (C, T, N)) (hn : As.length = n) (hsize : ls.size = nL) (hst : st0 = As.reverse ++ .ref b :: rest) (hW : (rest.map fun v => v.category).sum ≤ 8) (hdg : decode cc pc = .ok (.invokevirtual index, 3)) (hf : cells ≤ R.cells ∧ slots ≤ R.slots) :
    va_Run p l e R s m args below meth c H locs cells slots 0 0 (F0 m pc ls st0) rest (Qc (Value.ref b :: As).toArray) free :=
  va_runVN (g := F0 m pc ls st0) S0 hM cw ⟨Pr.blind, va_recv hw.2.1 hw.1 hc he, hw.pre⟩ rfl hn hsize hst (lv_room (pc := pc) (ls := ls) (rest := st0) hW) hdg hf
theorem q_runS (S0 : CallFix p m c cc nL s args Ts own) (hM : Met l y wl0 rm (Pr D cl tys As ws) Qc 0 0 free) (cw : CallB R s args own index y bytes maxL ret wl0 rm 0 0 n ∧ (Cond.static y).before args s = true) (hw : Lv D cl tys A H0 ws s H locs) (hn : As.length = n) (hsize : ls.size = nL) (hst : st0 = As.reverse ++ rest) (hW : (rest.map fun v => v.category).sum ≤ 8) (hdg : decode cc pc = .ok (.invokestatic index, 3)) (hf : cells ≤ R.cells ∧ slots ≤ R.slots) :
    va_Run p l e R s m args below meth c H locs cells slots 0 0 (F0 m pc ls st0) rest (Qc As.toArray) free :=
  va_runS (g := F0 m pc ls st0) S0 hM cw ⟨Pr.blind, hw.pre⟩ rfl hn hsize hst (lv_room (pc := pc) (ls := ls) (rest := st0) hW) hdg hf
/-- a comparison of longs and the branch behind it -/
theorem q_lc_lt (S0 : CallFix p m c cc nL s args Ts own) {x z : Int64} {off : Int} {tgt : Nat} (hd1 : decode cc pc = .ok (.lcmp, 1)) (hd2 : decode cc (pc + 1) = .ok (.ifCond .lt off, 3)) (ht : ((pc + 1 : Nat) : Int) + off = (tgt : Int))
    (kt : x < z → W p l e R s m args below meth c H locs cells slots Q (F0 m tgt ls rest)) (kf : ¬ x < z → W p l e R s m args below meth c H locs cells slots Q (F0 m (pc + 1 + 3) ls rest)) : W p l e R s m args below meth c H locs cells slots Q (F0 m pc ls (.long z :: .long x :: rest)) :=
  W.lcmp S0.1 S0.2.1 hd1 (lv_if_lt S0.1 S0.2.1 hd2 ht (fun h => kt ((lg_cmp_lt x z).mp h)) (fun h => kf (fun q => h ((lg_cmp_lt x z).mpr q))))
theorem q_lc_ge (S0 : CallFix p m c cc nL s args Ts own) {x z : Int64} {off : Int} {tgt : Nat} (hd1 : decode cc pc = .ok (.lcmp, 1)) (hd2 : decode cc (pc + 1) = .ok (.ifCond .ge off, 3)) (ht : ((pc + 1 : Nat) : Int) + off = (tgt : Int))
    (kt : z ≤ x → W p l e R s m args below meth c H locs cells slots Q (F0 m tgt ls rest)) (kf : ¬ z ≤ x → W p l e R s m args below meth c H locs cells slots Q (F0 m (pc + 1 + 3) ls rest)) : W p l e R s m args below meth c H locs cells slots Q (F0 m pc ls (.long z :: .long x :: rest)) :=
  W.lcmp S0.1 S0.2.1 hd1 (lv_if_ge S0.1 S0.2.1 hd2 ht (fun h => kt ((lg_cmp_ge x z).mp h)) (fun h => kf (fun q => h ((lg_cmp_ge x z).mpr q))))
theorem q_lc_gt (S0 : CallFix p m c cc nL s args Ts own) {x z : Int64} {off : Int} {tgt : Nat} (hd1 : decode cc pc = .ok (.lcmp, 1)) (hd2 : decode cc (pc + 1) = .ok (.ifCond .gt off, 3)) (ht : ((pc + 1 : Nat) : Int) + off = (tgt : Int))
    (kt : z < x → W p l e R s m args below meth c H locs cells slots Q (F0 m tgt ls rest)) (kf : ¬ z < x → W p l e R s m args below meth c H locs cells slots Q (F0 m (pc + 1 + 3) ls rest)) : W p l e R s m args below meth c H locs cells slots Q (F0 m pc ls (.long z :: .long x :: rest)) :=
  W.lcmp S0.1 S0.2.1 hd1 (lv_if_gt S0.1 S0.2.1 hd2 ht (fun h => kt ((lg_cmp_gt x z).mp h)) (fun h => kf (fun q => h ((lg_cmp_gt x z).mpr q))))
theorem q_lc_le (S0 : CallFix p m c cc nL s args Ts own) {x z : Int64} {off : Int} {tgt : Nat} (hd1 : decode cc pc = .ok (.lcmp, 1)) (hd2 : decode cc (pc + 1) = .ok (.ifCond .le off, 3)) (ht : ((pc + 1 : Nat) : Int) + off = (tgt : Int))
    (kt : x ≤ z → W p l e R s m args below meth c H locs cells slots Q (F0 m tgt ls rest)) (kf : ¬ x ≤ z → W p l e R s m args below meth c H locs cells slots Q (F0 m (pc + 1 + 3) ls rest)) : W p l e R s m args below meth c H locs cells slots Q (F0 m pc ls (.long z :: .long x :: rest)) :=
  W.lcmp S0.1 S0.2.1 hd1 (lv_if_le S0.1 S0.2.1 hd2 ht (fun h => kt ((lg_cmp_le x z).mp h)) (fun h => kf (fun q => h ((lg_cmp_le x z).mpr q))))
theorem q_lc_eq (S0 : CallFix p m c cc nL s args Ts own) {x z : Int64} {off : Int} {tgt : Nat} (hd1 : decode cc pc = .ok (.lcmp, 1)) (hd2 : decode cc (pc + 1) = .ok (.ifCond .eq off, 3)) (ht : ((pc + 1 : Nat) : Int) + off = (tgt : Int))
    (kt : x = z → W p l e R s m args below meth c H locs cells slots Q (F0 m tgt ls rest)) (kf : ¬ x = z → W p l e R s m args below meth c H locs cells slots Q (F0 m (pc + 1 + 3) ls rest)) : W p l e R s m args below meth c H locs cells slots Q (F0 m pc ls (.long z :: .long x :: rest)) :=
  W.lcmp S0.1 S0.2.1 hd1 (lv_if_eq S0.1 S0.2.1 hd2 ht (fun h => kt ((lg_cmp_eq x z).mp h)) (fun h => kf (fun q => h ((lg_cmp_eq x z).mpr q))))
theorem q_lc_ne (S0 : CallFix p m c cc nL s args Ts own) {x z : Int64} {off : Int} {tgt : Nat} (hd1 : decode cc pc = .ok (.lcmp, 1)) (hd2 : decode cc (pc + 1) = .ok (.ifCond .ne off, 3)) (ht : ((pc + 1 : Nat) : Int) + off = (tgt : Int))
    (kt : ¬ x = z → W p l e R s m args below meth c H locs cells slots Q (F0 m tgt ls rest)) (kf : x = z → W p l e R s m args below meth c H locs cells slots Q (F0 m (pc + 1 + 3) ls rest)) : W p l e R s m args below meth c H locs cells slots Q (F0 m pc ls (.long z :: .long x :: rest)) :=
  W.lcmp S0.1 S0.2.1 hd1 (lv_if_ne S0.1 S0.2.1 hd2 ht (fun h => kt (fun q => h ((lg_cmp_eq x z).mpr q))) (fun h => kf ((lg_cmp_eq x z).mp h)))
/-- another word for the top of the stack -/
theorem q_topi {x z : Int32} (h : x = z) (kk : W p l e R s m args below meth c H locs cells slots Q (F0 m pc ls (.int z :: rest))) : W p l e R s m args below meth c H locs cells slots Q (F0 m pc ls (.int x :: rest)) := h ▸ kk
theorem q_topl {x z : Int64} (h : x = z) (kk : W p l e R s m args below meth c H locs cells slots Q (F0 m pc ls (.long z :: rest))) : W p l e R s m args below meth c H locs cells slots Q (F0 m pc ls (.long x :: rest)) := h ▸ kk
theorem q_topr {x z : Nat} (h : x = z) (kk : W p l e R s m args below meth c H locs cells slots Q (F0 m pc ls (.ref z :: rest))) : W p l e R s m args below meth c H locs cells slots Q (F0 m pc ls (.ref x :: rest)) := h ▸ kk
theorem jb_inj {x z : Bool} (h : jb x = jb z) : x = z := by cases x <;> cases z <;> first | rfl | exact absurd h (by decide)
theorem q_zcmp_eq (S0 : CallFix p m c cc nL s args Ts own) {x z : Bool} {off : Int} {tgt : Nat} (hdg : decode cc pc = .ok (.if_icmp .eq off, 3)) (ht : (pc : Int) + off = (tgt : Int))
    (kt : x = z → W p l e R s m args below meth c H locs cells slots Q (F0 m tgt ls rest)) (kf : ¬ x = z → W p l e R s m args below meth c H locs cells slots Q (F0 m (pc + 3) ls rest)) : W p l e R s m args below meth c H locs cells slots Q (F0 m pc ls (.int (jb z) :: .int (jb x) :: rest)) :=
  lv_icmp_eq S0.1 S0.2.1 hdg ht (fun h => kt (jb_inj h)) (fun h => kf (fun q => h (by rw [q])))
theorem q_zcmp_ne (S0 : CallFix p m c cc nL s args Ts own) {x z : Bool} {off : Int} {tgt : Nat} (hdg : decode cc pc = .ok (.if_icmp .ne off, 3)) (ht : (pc : Int) + off = (tgt : Int))
    (kt : ¬ x = z → W p l e R s m args below meth c H locs cells slots Q (F0 m tgt ls rest)) (kf : x = z → W p l e R s m args below meth c H locs cells slots Q (F0 m (pc + 3) ls rest)) : W p l e R s m args below meth c H locs cells slots Q (F0 m pc ls (.int (jb z) :: .int (jb x) :: rest)) :=
  lv_icmp_ne S0.1 S0.2.1 hdg ht (fun h => kt (fun q => h (by rw [q]))) (fun h => kf (jb_inj h))
theorem q_loc {l l' : List (Nat × Value)} (h : lv_has ls nL l) (e : l = l') : lv_has ls nL l' := e ▸ h
theorem q_join {g : JFrame} {pcJ : Nat} {st : List Value} {lv' : List (Nat × Value)} (J : ∀ ls' : Array Slot, lv_has ls' nL lv' → W p l e R s m args below meth c H locs cells slots Q (F0 m pcJ ls' st))
    (K : (∀ ls' : Array Slot, lv_has ls' nL lv' → W p l e R s m args below meth c H locs cells slots Q (F0 m pcJ ls' st)) → W p l e R s m args below meth c H locs cells slots Q g) : W p l e R s m args below meth c H locs cells slots Q g := K J
theorem q_joinV {g : JFrame} {pcJ : Nat} {X : Type} {P : X → Prop} {st : X → List Value} {lv' : List (Nat × Value)} (J : ∀ (ls' : Array Slot) (v : X), P v → lv_has ls' nL lv' → W p l e R s m args below meth c H locs cells slots Q (F0 m pcJ ls' (st v)))
    (K : (∀ (ls' : Array Slot) (v : X), P v → lv_has ls' nL lv' → W p l e R s m args below meth c H locs cells slots Q (F0 m pcJ ls' (st v))) → W p l e R s m args below meth c H locs cells slots Q g) : W p l e R s m args below meth c H locs cells slots Q g := K J
theorem q_joinH {g : JFrame} {pcJ : Nat} {wsJ : va_W} {st : List Value} {lv' : List (Nat × Value)} (_hw : Lv D cl tys A H0 ws s H locs) (J : ∀ (H' : Heap) (locs' : List Loc) (ls' : Array Slot), Lv D cl tys A H0 wsJ s H' locs' → lv_has ls' nL lv' → W p l e R s m args below meth c H' locs' cells slots Q (F0 m pcJ ls' st))
    (K : (∀ (H' : Heap) (locs' : List Loc) (ls' : Array Slot), Lv D cl tys A H0 wsJ s H' locs' → lv_has ls' nL lv' → W p l e R s m args below meth c H' locs' cells slots Q (F0 m pcJ ls' st)) → W p l e R s m args below meth c H locs cells slots Q g) : W p l e R s m args below meth c H locs cells slots Q g := K J
theorem q_joinHV {g : JFrame} {pcJ : Nat} {X : Type} {P : X → Prop} {st : X → List Value} {lv' : List (Nat × Value)} (_hw : Lv D cl tys A H0 ws s H locs) (J : ∀ (H' : Heap) (locs' : List Loc) (ls' : Array Slot) (v : X), P v → Lv D cl tys A H0 ws s H' locs' → lv_has ls' nL lv' → W p l e R s m args below meth c H' locs' cells slots Q (F0 m pcJ ls' (st v)))
    (K : (∀ (H' : Heap) (locs' : List Loc) (ls' : Array Slot) (v : X), P v → Lv D cl tys A H0 ws s H' locs' → lv_has ls' nL lv' → W p l e R s m args below meth c H' locs' cells slots Q (F0 m pcJ ls' (st v))) → W p l e R s m args below meth c H locs cells slots Q g) : W p l e R s m args below meth c H locs cells slots Q g := K J
end QB
/-- one cell of a larger world; two cells; the front of a larger world -/
theorem Cr.nil {l : Launch} {y : MethodName} {wl : List Cond} {rm : Room} {D : va_G} {cl : List vw_C} {tys : List (ClassId × FieldType)} {av : List Value} {v : Option Value} (h : Cr l y wl rm D cl tys av [] v) (B : va_W) : Cr l y wl rm D cl tys av B v :=
  h.emb B id (fun k q hk => by cases hk) (fun i j hi => absurd hi (Nat.not_lt_zero i))
theorem q_at1 {a : Nat} {x : va_E} {k : Nat} {q : Nat × va_E} (hk : [(a, x)][k]? = some q) : k = 0 ∧ q = (a, x) := by
  cases k with
  | zero => exact ⟨rfl, (Option.some.inj hk).symm⟩
  | succ k => cases hk
theorem Cr.one {l : Launch} {y : MethodName} {wl : List Cond} {rm : Room} {D : va_G} {cl : List vw_C} {tys : List (ClassId × FieldType)} {av : List Value} {v : Option Value} {a : Nat} {x : va_E} (h : Cr l y wl rm D cl tys av [(a, x)] v) {B : va_W} (j : Nat) (hj : B[j]? = some (a, x)) : Cr l y wl rm D cl tys av B v :=
  h.emb B (fun _ => j) (fun k q hk => by obtain ⟨rfl, rfl⟩ := q_at1 hk; exact hj) (fun i k hi hk _ => by have h1 : i < 1 := hi; have h2 : k < 1 := hk; omega)
theorem Cg.one {S : Type} {l : Launch} {y : MethodName} {wl : List Cond} {rm : Room} {D : va_G} {cl : List vw_C} {tys : List (ClassId × FieldType)} {av : List Value} {v : S → Option Value} {post : S → Prop} {a : Nat} {x : va_E} {x' : S → va_E} (h : Cg l y wl rm D cl tys av [(a, x)] v (fun u => [(a, x' u)]) post) {B : va_W} (j : Nat) (hj : B[j]? = some (a, x)) : Cg l y wl rm D cl tys av B v (fun u => B.set j (a, x' u)) post :=
  h.emb B _ (fun _ => j) (fun k q hk => by obtain ⟨rfl, rfl⟩ := q_at1 hk; exact hj) (fun i k hi hk _ => by have h1 : i < 1 := hi; have h2 : k < 1 := hk; omega) (fun u k q hk => by
    rw [List.getElem?_set] at hk
    by_cases hjk : j = k
    · rw [if_pos hjk] at hk
      by_cases hlt : j < B.length
      · rw [if_pos hlt] at hk; exact Or.inl ⟨0, hk⟩
      · rw [if_neg hlt] at hk; cases hk
    · rw [if_neg hjk] at hk
      exact Or.inr ⟨hk, fun _ _ => hjk⟩)
theorem q_at2 {a b : Nat} {x z : va_E} {k : Nat} {q : Nat × va_E} (hk : [(a, x), (b, z)][k]? = some q) : (k = 0 ∧ q = (a, x)) ∨ (k = 1 ∧ q = (b, z)) := by
  match k, hk with
  | 0, hk => exact Or.inl ⟨rfl, (Option.some.inj hk).symm⟩
  | 1, hk => exact Or.inr ⟨rfl, (Option.some.inj hk).symm⟩
  | k + 2, hk => cases hk
theorem Cr.two {l : Launch} {y : MethodName} {wl : List Cond} {rm : Room} {D : va_G} {cl : List vw_C} {tys : List (ClassId × FieldType)} {av : List Value} {v : Option Value} {a b : Nat} {x z : va_E} (h : Cr l y wl rm D cl tys av [(a, x), (b, z)] v) {B : va_W} (i j : Nat) (hij : i ≠ j) (hi : B[i]? = some (a, x)) (hj : B[j]? = some (b, z)) : Cr l y wl rm D cl tys av B v :=
  h.emb B (fun k => if k = 0 then i else j) (fun k q hk => by rcases q_at2 hk with ⟨rfl, rfl⟩ | ⟨rfl, rfl⟩; exact hi; exact hj) (fun k n hk hn e => by
    have h1 : k < 2 := hk
    have h2 : n < 2 := hn
    match k, n, h1, h2, e with
    | 0, 0, _, _, _ => rfl
    | 1, 1, _, _, _ => rfl
    | 0, 1, _, _, e => exact absurd e hij
    | 1, 0, _, _, e => exact absurd e.symm hij)
/-- of two cells the first is written -/
theorem Cg.two {S : Type} {l : Launch} {y : MethodName} {wl : List Cond} {rm : Room} {D : va_G} {cl : List vw_C} {tys : List (ClassId × FieldType)} {av : List Value} {v : S → Option Value} {post : S → Prop} {a b : Nat} {x z : va_E} {x' : S → va_E} (h : Cg l y wl rm D cl tys av [(a, x), (b, z)] v (fun u => [(a, x' u), (b, z)]) post) {B : va_W} (i j : Nat) (hij : i ≠ j) (hi : B[i]? = some (a, x)) (hj : B[j]? = some (b, z)) : Cg l y wl rm D cl tys av B v (fun u => B.set i (a, x' u)) post :=
  h.emb B _ (fun k => if k = 0 then i else j) (fun k q hk => by rcases q_at2 hk with ⟨rfl, rfl⟩ | ⟨rfl, rfl⟩; exact hi; exact hj) (fun k n hk hn e => by
    have h1 : k < 2 := hk
    have h2 : n < 2 := hn
    match k, n, h1, h2, e with
    | 0, 0, _, _, _ => rfl
    | 1, 1, _, _, _ => rfl
    | 0, 1, _, _, e => exact absurd e hij
    | 1, 0, _, _, e => exact absurd e.symm hij) (fun u k q hk => by
    rw [List.getElem?_set] at hk
    by_cases hjk : i = k
    · rw [if_pos hjk] at hk
      by_cases hlt : i < B.length
      · rw [if_pos hlt] at hk; exact Or.inl ⟨0, hk⟩
      · rw [if_neg hlt] at hk; cases hk
    · rw [if_neg hjk] at hk
      by_cases hk2 : j = k
      · subst hk2
        rw [hj] at hk
        exact Or.inl ⟨1, hk⟩
      · refine Or.inr ⟨hk, fun n _ => ?_⟩
        show (if n = 0 then i else j) ≠ k
        by_cases hn : n = 0
        · rw [if_pos hn]; exact hjk
        · rw [if_neg hn]; exact hk2)
theorem Cr.front {l : Launch} {y : MethodName} {wl : List Cond} {rm : Room} {D : va_G} {cl : List vw_C} {tys : List (ClassId × FieldType)} {av : List Value} {ws : va_W} {v : Option Value} (h : Cr l y wl rm D cl tys av ws v) (Y : va_W) : Cr l y wl rm D cl tys av (ws ++ Y) v :=
  h.emb _ id (fun k q hk => by show (ws ++ Y)[k]? = some q; rw [List.getElem?_append_left (List.getElem?_eq_some_iff.mp hk).1]; exact hk) (fun i j _ _ e => e)
theorem Cg.front {S : Type} {l : Launch} {y : MethodName} {wl : List Cond} {rm : Room} {D : va_G} {cl : List vw_C} {tys : List (ClassId × FieldType)} {av : List Value} {ws : va_W} {v : S → Option Value} {ws' : S → va_W} {post : S → Prop} (h : Cg l y wl rm D cl tys av ws v ws' post) (hlen : ∀ u, (ws' u).length = ws.length) (Y : va_W) : Cg l y wl rm D cl tys av (ws ++ Y) v (fun u => ws' u ++ Y) post :=
  h.emb _ _ id (fun k q hk => by show (ws ++ Y)[k]? = some q; rw [List.getElem?_append_left (List.getElem?_eq_some_iff.mp hk).1]; exact hk) (fun i j _ _ e => e) (fun u k q hk => by
    by_cases hlt : k < (ws' u).length
    · rw [List.getElem?_append_left hlt] at hk; exact Or.inl ⟨k, hk⟩
    · have h1 : (ws' u).length ≤ k := Nat.le_of_not_lt hlt
      rw [List.getElem?_append_right h1, hlen] at hk
      have h2 : ws.length ≤ k := by rw [← hlen u]; exact h1
      exact Or.inr ⟨by rw [List.getElem?_append_right h2]; exact hk, fun i hi e => by have e' : i = k := e; omega⟩)
