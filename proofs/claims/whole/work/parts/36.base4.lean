theorem nfw7 : nativeFrameWords "java/lang/System" "arraycopy" 5 = 7 := by decide
section QC
variable {p : Program} {l : Launch} {e : Env} {R : Room} {s : State} {m : MethodId} {args : Array Value} {below : List Frame} {meth : Method} {c : Code} {H : Heap} {locs : List Loc} {cells slots : Nat} {Q : State → Prop}
variable {cc : ByteArray} {pc nL index : Nat} {ls : Array Slot} {rest : List Value} {D : va_G} {cl : List vw_C} {A : Nat → Prop} {a : Nat} {tys : List (ClassId × FieldType)} {ws : va_W} {H0 : Heap} {Ts : List Cond} {own : String}
/-- System.arraycopy of ints between two cells of the world -/
theorem q_copyN (S0 : CallFix p m c cc nL s args Ts own) (hsz : ls.size = nL) (hw : Lv D cl tys A H0 ws s H locs) (hlink : Cond.methodLink own index arraycopyName ∈ Ts) (hnat : Cond.native arraycopyName ∈ Ts) (hstat : Cond.static arraycopyName ∈ Ts) (hini : Cond.initialized "java/lang/System" ∈ Ts) (q0 q1 t0 : Nat) {a0 : Nat} {c0 : ClassId} {n0 n1 sp dp k : Nat} {f g : Nat → Int32} (ha0 : ws[q0]? = some (a0, .inl (c0, n0, .inl f))) (ha1 : ws[q1]? = some (a, .inl (c0, n1, .inl g))) (ht0 : tys[t0]? = some (c0, .int)) (h4 : sp + k ≤ n0) (h5 : dp + k ≤ n1) (hn0 : n0 < 2 ^ 31) (hn1 : n1 < 2 ^ 31)
    (hframes : 1 ≤ R.frames) (hlocals : (rest.map fun v => v.category).sum + 18 ≤ R.locals) (hdg : decode cc pc = .ok (.invokestatic index, 3))
    (kk : ∀ (H1 : Heap) (locs1 : List Loc), Lv D cl tys A H0 (ws.set q1 (a, .inl (c0, n1, .inl (va_cpy f g sp dp k)))) s H1 locs1 → W p l e R s m args below meth c H1 locs1 cells slots Q (F0 m (pc + 3) ls rest)) : W p l e R s m args below meth c H locs cells slots Q (F0 m pc ls (.int (nI k) :: .int (nI dp) :: .ref a :: .int (nI sp) :: .ref a0 :: rest)) := by
  have e1 : (nI sp).toNatClampNeg = sp := nI_clamp (by omega)
  have e2 : (nI dp).toNatClampNeg = dp := nI_clamp (by omega)
  have e3 : (nI k).toNatClampNeg = k := nI_clamp (by omega)
  refine va_copyi S0.1 S0.2.1 (S0.2.2.1.trans hsz.symm) S0.2.2.2.1 (S0.2.2.2.2 _ hlink) (S0.2.2.2.2 _ hnat) (S0.2.2.2.2 _ hstat) (S0.2.2.2.2 _ hini) hw.2.1 hw.1 hw.2.2.1 hw.2.2.2 q0 q1 t0 t0 ha0 ha1 ht0 ht0 rfl (nI_pos (by omega)) (nI_pos (by omega)) (nI_pos (by omega)) (by rw [e1, e3]; exact h4) (by rw [e2, e3]; exact h5) (fun i _ => rfl) hframes (by rw [nfw7]; exact hlocals) hdg (fun H1 locs1 h1 h2 h3 => ?_)
  rw [e1, e2, e3] at h1 h2
  exact kk H1 locs1 ⟨h1, hw.2.1, h2, h3⟩
theorem q_joinG {g : JFrame} {Z : Type} {pcJ : Nat} {st : List Value} (lv' : Z → List (Nat × Value)) (wz : Z → va_W) (I : Z → Prop) (_hw : Lv D cl tys A H0 ws s H locs)
    (J : ∀ (z : Z) (H' : Heap) (locs' : List Loc) (ls' : Array Slot), I z → Lv D cl tys A H0 (wz z) s H' locs' → lv_has ls' nL (lv' z) → W p l e R s m args below meth c H' locs' cells slots Q (F0 m pcJ ls' st))
    (K : (∀ (z : Z) (H' : Heap) (locs' : List Loc) (ls' : Array Slot), I z → Lv D cl tys A H0 (wz z) s H' locs' → lv_has ls' nL (lv' z) → W p l e R s m args below meth c H' locs' cells slots Q (F0 m pcJ ls' st)) → W p l e R s m args below meth c H locs cells slots Q g) : W p l e R s m args below meth c H locs cells slots Q g := K J
end QC
abbrev MT : Type := (Nat → Int32) × (Nat → Int32) × (Nat → Int32) × (Nat → Bool) × (Nat → Int32) × (Nat → Int32) × (Nat → Int32) × (Nat → Bool) × (Nat → Int32) × (Nat → Int32)
def MWt (ad : Nat → Nat) (ti : Nat → ClassId) (u : MT) : va_W := MW ad ti u.1 u.2.1 u.2.2.1 u.2.2.2.1 u.2.2.2.2.1 u.2.2.2.2.2.1 u.2.2.2.2.2.2.1 u.2.2.2.2.2.2.2.1 u.2.2.2.2.2.2.2.2.1 u.2.2.2.2.2.2.2.2.2
def MIt (u : MT) (w g : Nat → Int32) : Prop := MI u.1 u.2.1 u.2.2.1 u.2.2.2.1 u.2.2.2.2.1 u.2.2.2.2.2.1 u.2.2.2.2.2.2.1 u.2.2.2.2.2.2.2.1 u.2.2.2.2.2.2.2.2.1 u.2.2.2.2.2.2.2.2.2 w g
def MTl (u : MT) : Nat → Int32 := u.2.2.2.2.2.2.2.2.1
/-- the bit of a word's tag in its line's four -/
def tBit (i : Nat) : Int32 := (1 : Int32) <<< (nI (i % 8 / 2) &&& 31)
def gTag (g : Nat → Int32) (i : Nat) : Bool := if (g (i / 8) &&& tBit i) = 0 then false else true
/-- the tags of a line with one bit off, with one bit on -/
def gOff (g : Nat → Int32) (i : Nat) : Nat → Int32 := upd g (i / 8) (g (i / 8) &&& (tBit i ^^^ (-1)))
def gOn (g : Nat → Int32) (i : Nat) : Nat → Int32 := upd g (i / 8) (g (i / 8) ||| tBit i)
def gSum (g : Nat → Int32) : Nat → Int32
  | 0 => 0
  | k + 1 => gSum g k + jpop (g k)
theorem tBit_k (i : Nat) : ∃ k, k < 16 ∧ tBit i = nI k := by
  unfold tBit
  have h : ∀ j, j < 4 → ∃ k, k < 16 ∧ (1 : Int32) <<< (nI j &&& 31) = nI k := by
    intro j hj
    have : j = 0 ∨ j = 1 ∨ j = 2 ∨ j = 3 := by omega
    rcases this with rfl | rfl | rfl | rfl
    · exact ⟨1, by decide, by decide⟩
    · exact ⟨2, by decide, by decide⟩
    · exact ⟨4, by decide, by decide⟩
    · exact ⟨8, by decide, by decide⟩
  exact h (i % 8 / 2) (by omega)
theorem nib_op : ∀ a, a < 16 → ∀ b, b < 16 → (nI a &&& (nI b ^^^ (-1)) = nI (a &&& (15 - b))) ∧ nI a ||| nI b = nI (a ||| b) := by decide +kernel
theorem nib_lt : ∀ a, a < 16 → ∀ b, b < 16 → (a &&& (15 - b)) < 16 ∧ (a ||| b) < 16 := by decide +kernel
/-- a word is written in a line that stands in slot s -/
theorem MI.write {words mc mt : Nat → Int32} {mw : Nat → Bool} {rows held tc : Nat → Int32} {tw : Nat → Bool} {lines nx w g : Nat → Int32} (h : MI words mc mt mw rows held tc tw lines nx w g) {i s : Nat} (hi : i < 4096) (hs : s < 32) (hl : lines s = nI (i / 8)) (x t : Int32) (ht : ∃ k, k < 16 ∧ t = nI k) (w' g' : Nat → Int32) (hw : w' = upd w i x ∨ (w' = w ∧ x = w i)) (hg : g' = upd g (i / 8) t) :
    MI words (upd mc (s * 8 + i % 8) x) (upd mt s t) (va_up mw s true) rows held tc tw lines nx w' g' := by
  obtain ⟨hL, hD, hN, hT, hg0, h0, hr, hb⟩ := h
  have hw' : ∀ k, w' k = if k = i then x else w k := by
    intro k
    rcases hw with e | ⟨e, e2⟩
    · rw [e]; rfl
    · rw [e]; split
      · rename_i q; rw [q]; exact e2.symm
      · rfl
  have hg' : ∀ k, g' k = if k = i / 8 then t else g k := by intro k; rw [hg]; rfl
  refine ⟨hL, hD, hN, hT, fun n hn => ?_, fun q hq e => ?_, fun q n hq hn e => ?_, fun n hn hno => ?_⟩
  · rw [hg']; split
    · exact ht
    · exact hg0 n hn
  · have : ¬ q = s := fun z => nI_neg (r := i / 8) (by omega) (hl.symm.trans (by rw [← z]; exact e))
    have e2 : upd mt s t q = mt q := by simp [upd, this]
    rw [e2]; exact h0 q hq e
  · obtain ⟨r1, r2, r3⟩ := hr q n hq hn e
    by_cases e1 : q = s
    · subst e1
      have hn8 : n = i / 8 := nI_inj (by omega) (by omega) (e.symm.trans hl)
      subst hn8
      refine ⟨fun j hj => ?_, ?_, fun hc => by simp [va_up] at hc⟩
      · rw [hw']
        by_cases e2 : j = i % 8
        · have h1 : q * 8 + j = q * 8 + i % 8 := by omega
          have h2 : i / 8 * 8 + j = i := by omega
          rw [h1, if_pos h2]; simp [upd]
        · have h1 : ¬ q * 8 + j = q * 8 + i % 8 := by omega
          have h2 : ¬ i / 8 * 8 + j = i := by omega
          rw [if_neg h2]
          have h3 : upd mc (q * 8 + i % 8) x (q * 8 + j) = mc (q * 8 + j) := by unfold upd; rw [if_neg h1]
          rw [h3]; exact r1 j hj
      · rw [hg', if_pos rfl]; simp [upd]
    · have hn8 : ¬ n = i / 8 := fun z => by
        have hne : lines q ≠ lines s := by
          rcases Nat.lt_or_gt_of_ne e1 with hlt | hlt
          · exact hD q s hq hs hlt (by rw [e]; exact nI_neg (by omega))
          · exact fun y => hD s q hs hq hlt (by rw [hl]; exact nI_neg (by omega)) y.symm
        exact hne (by rw [e, hl, z])
      refine ⟨fun j hj => ?_, ?_, fun hc => ?_⟩
      · have h1 : ¬ q * 8 + j = s * 8 + i % 8 := by omega
        have h2 : ¬ n * 8 + j = i := by omega
        rw [hw', if_neg h2]
        have h3 : upd mc (s * 8 + i % 8) x (q * 8 + j) = mc (q * 8 + j) := by unfold upd; rw [if_neg h1]
        rw [h3]; exact r1 j hj
      · have e2 : upd mt s t q = mt q := by simp [upd, e1]
        rw [e2, hg', if_neg hn8]; exact r2
      · have e2 : va_up mw s true q = mw q := by simp [va_up, e1]
        rw [e2] at hc
        refine ⟨fun j hj => ?_, by rw [hg', if_neg hn8]; exact (r3 hc).2⟩
        have h2 : ¬ n * 8 + j = i := by omega
        rw [hw', if_neg h2]; exact (r3 hc).1 j hj
  · have hn8 : ¬ n = i / 8 := fun z => hno s hs (by rw [z]; exact hl)
    obtain ⟨q1, q2⟩ := hb n hn hno
    refine ⟨fun j hj => ?_, by rw [hg', if_neg hn8]; exact q2⟩
    have h2 : ¬ n * 8 + j = i := by omega
    rw [hw', if_neg h2]; exact q1 j hj
