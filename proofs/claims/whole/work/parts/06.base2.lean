/-! More base rows. -/
section QF
variable {l : Launch} {D : va_G} {cl : List vw_C} {tys : List (ClassId × FieldType)} {ws : va_W} {cc : ByteArray} {y : MethodName} {maxL : Nat} {ret : Option FieldType} {rm : Room} {av : List Value}
theorem Cg.ofF {S : Type} {v : S → Option Value} {ws' : S → va_W} {post : S → Prop} (hy : plainFor y = true) (hlen : (lg_sl av).length ≤ maxL)
    (body : ∀ (p : Program) (e : Env) (s : State) (m : MethodId) (below : List Frame) (meth : Method) (c : Code) (ls : Array Slot), CallFix p m c cc maxL s av.toArray TB y.cls → meth.sig.returnType = ret → meth.locks = false → lv_has ls maxL (lv_args 0 av) → Lv D cl tys (qIn ws) s.heap ws s s.heap [] →
      W p l e rm s m av.toArray below meth c s.heap [] 0 0 (MQ below (Gh D cl ws v ws' post) av.toArray s 0 0 (qIn ws)) (F0 m 0 ls [])) : Cg l y (wl y cc maxL ret) rm D cl tys av ws v ws' post := by
  refine va_MetF (cc := cc) (maxL := maxL) (ret := ret) hy rfl ?_
  intro p e s m args below meth c s₁ B hml hv
  obtain ⟨rfl, hP, hK, hD⟩ := hv
  have hl := lv_entry av (n := maxL) hlen
  rw [lg_entry_eq]
  exact body p e s m below meth c _ ⟨B.exec, B.bytes, hml, findClass_of_methodNamed B.named, fun w hw => atoms_spec (ws := wl y cc maxL ret) B.pre w (List.mem_cons_of_mem _ hw)⟩ B.returns B.notSynchronized hl ⟨hP, hK, ⟨hD.1, fun k q hk => ⟨k, q.2, hk⟩⟩, va_S.rf⟩
theorem Cr.ofF {v : Option Value} (hy : plainFor y = true) (hlen : (lg_sl av).length ≤ maxL)
    (body : ∀ (p : Program) (e : Env) (s : State) (m : MethodId) (below : List Frame) (meth : Method) (c : Code) (ls : Array Slot), CallFix p m c cc maxL s av.toArray TB y.cls → meth.sig.returnType = ret → meth.locks = false → lv_has ls maxL (lv_args 0 av) → Lv D cl tys (qIn ws) s.heap ws s s.heap [] →
      W p l e rm s m av.toArray below meth c s.heap [] 0 0 (MQ below (Rd v) av.toArray s 0 0 (fun _ => False)) (F0 m 0 ls [])) : Cr l y (wl y cc maxL ret) rm D cl tys av ws v := by
  refine va_MetF (cc := cc) (maxL := maxL) (ret := ret) hy rfl ?_
  intro p e s m args below meth c s₁ B hml hv
  obtain ⟨rfl, hP, hK, hD⟩ := hv
  have hl := lv_entry av (n := maxL) hlen
  rw [lg_entry_eq]
  exact body p e s m below meth c _ ⟨B.exec, B.bytes, hml, findClass_of_methodNamed B.named, fun w hw => atoms_spec (ws := wl y cc maxL ret) B.pre w (List.mem_cons_of_mem _ hw)⟩ B.returns B.notSynchronized hl ⟨hP, hK, ⟨hD.1, fun k q hk => ⟨k, q.2, hk⟩⟩, va_S.rf⟩
end QF
section QL
variable {p : Program} {l : Launch} {e : Env} {R : Room} {s : State} {m : MethodId} {args : Array Value} {below : List Frame} {meth : Method} {c : Code} {H : Heap} {locs : List Loc} {cells slots : Nat} {Q : State → Prop}
variable {nL : Nat} {ls : Array Slot} {D : va_G} {cl : List vw_C} {A : Nat → Prop} {tys : List (ClassId × FieldType)} {ws : va_W} {H0 : Heap}
/-- a loop that leaves the heap alone: z is its state -/
theorem q_loop {Z : Type} {pcL : Nat} {st : List Value} (lv' : Z → List (Nat × Value)) (I : Z → Prop) (mu : Z → Nat)
    (step : ∀ (z : Z) (ls : Array Slot), I z → lv_has ls nL (lv' z) → (∀ (z' : Z) (ls' : Array Slot), I z' → mu z' < mu z → lv_has ls' nL (lv' z') → W p l e R s m args below meth c H locs cells slots Q (F0 m pcL ls' st)) → W p l e R s m args below meth c H locs cells slots Q (F0 m pcL ls st))
    (z0 : Z) (h0 : I z0) (hl : lv_has ls nL (lv' z0)) : W p l e R s m args below meth c H locs cells slots Q (F0 m pcL ls st) := by
  have go : ∀ (n : Nat) (z : Z) (ls : Array Slot), mu z < n → I z → lv_has ls nL (lv' z) → W p l e R s m args below meth c H locs cells slots Q (F0 m pcL ls st) := by
    intro n
    induction n with
    | zero => intro z ls h; exact absurd h (Nat.not_lt_zero _)
    | succ n ih => intro z ls h hI hl; exact step z ls hI hl (fun z' ls' hI' hm hl' => ih z' ls' (by omega) hI' hl')
  exact go (mu z0 + 1) z0 ls (Nat.lt_succ_self _) h0 hl
/-- a loop over a world -/
theorem q_loopH {Z : Type} {pcL : Nat} {st : List Value} (lv' : Z → List (Nat × Value)) (wz : Z → va_W) (I : Z → Prop) (mu : Z → Nat)
    (step : ∀ (z : Z) (H : Heap) (locs : List Loc) (ls : Array Slot), I z → Lv D cl tys A H0 (wz z) s H locs → lv_has ls nL (lv' z) → (∀ (z' : Z) (H' : Heap) (locs' : List Loc) (ls' : Array Slot), I z' → mu z' < mu z → Lv D cl tys A H0 (wz z') s H' locs' → lv_has ls' nL (lv' z') → W p l e R s m args below meth c H' locs' cells slots Q (F0 m pcL ls' st)) → W p l e R s m args below meth c H locs cells slots Q (F0 m pcL ls st))
    (z0 : Z) (h0 : I z0) (hw : Lv D cl tys A H0 (wz z0) s H locs) (hl : lv_has ls nL (lv' z0)) : W p l e R s m args below meth c H locs cells slots Q (F0 m pcL ls st) := by
  have go : ∀ (n : Nat) (z : Z) (H : Heap) (locs : List Loc) (ls : Array Slot), mu z < n → I z → Lv D cl tys A H0 (wz z) s H locs → lv_has ls nL (lv' z) → W p l e R s m args below meth c H locs cells slots Q (F0 m pcL ls st) := by
    intro n
    induction n with
    | zero => intro z H locs ls h; exact absurd h (Nat.not_lt_zero _)
    | succ n ih => intro z H locs ls h hI hw hl; exact step z H locs ls hI hw hl (fun z' H' locs' ls' hI' hm hw' hl' => ih z' H' locs' ls' (by omega) hI' hw' hl')
  exact go (mu z0 + 1) z0 H locs ls (Nat.lt_succ_self _) h0 hw hl
end QL
