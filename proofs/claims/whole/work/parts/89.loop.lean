/-! The law's calls: good or thrown. -/
theorem isW_nI {a : Int32} (h : isW a = true) : ∃ n : Nat, n < 4096 ∧ a = nI n := by
  unfold isW at h
  by_cases h1 : a < 0
  · rw [if_pos h1] at h; cases h
  · rw [if_neg h1] at h
    by_cases h2 : 4096 ≤ a
    · rw [if_pos h2] at h; cases h
    · have h3 : a ≤ 4095 := by
        rw [Int32.le_iff_toInt_le] at h2 ⊢
        have e1 : (4096 : Int32).toInt = 4096 := rfl
        have e2 : (4095 : Int32).toInt = 4095 := rfl
        omega
      obtain ⟨n, hn, e⟩ := nI_of2 (M := 4095) (n := 4095) rfl h1 h3
      exact ⟨n, by omega, e⟩
theorem bne {b : Bool} (h : ¬ b = true) : b = false := by cases b; rfl; exact absurd rfl h
theorem bnf {b : Bool} (h : ¬ b = false) : b = true := by cases b; exact absurd rfl h; rfl
theorem rng_of {x M m : Int32} {a n : Nat} (hm : m.toInt = a) (hM : M.toInt = n) (h1 : ¬ x < m) (h2 : x ≤ M) : ∃ j : Nat, a ≤ j ∧ j ≤ n ∧ x = nI j := by
  have h0 : ¬ x < 0 := by
    rw [Int32.lt_iff_toInt_lt] at h1 ⊢
    have e0 : (0 : Int32).toInt = 0 := rfl
    omega
  obtain ⟨j, hj, rfl⟩ := nI_of2 hM h0 h2
  refine ⟨j, ?_, hj, rfl⟩
  have h3 := Int32.toInt_lt M
  have h4 : j < 2 ^ 31 := by omega
  rw [Int32.lt_iff_toInt_lt, nI_toInt h4] at h1
  omega
theorem le_pred {x : Int32} {k : Nat} {a b : Int32} (ha : a.toInt = (k : Int) + 1) (hb : b.toInt = k) (h : ¬ a ≤ x) : x ≤ b := by
  rw [Int32.le_iff_toInt_le] at h ⊢
  omega
theorem up7_of {x : Int32} (h : ¬ (x < 0 ∨ 6 < x)) : up7 x := by
  obtain ⟨j, -, hj, rfl⟩ := rng_of (x := x) (M := 6) (m := 0) (a := 0) (n := 6) rfl rfl (fun q => h (Or.inl q)) (Int32.not_lt.mp (fun q => h (Or.inr q)))
  have h7 : j = 0 ∨ j = 1 ∨ j = 2 ∨ j = 3 ∨ j = 4 ∨ j = 5 ∨ j = 6 := by omega
  rcases h7 with rfl | rfl | rfl | rfl | rfl | rfl | rfl
  · exact Or.inl rfl
  · exact Or.inr (Or.inl rfl)
  · exact Or.inr (Or.inr (Or.inl rfl))
  · exact Or.inr (Or.inr (Or.inr (Or.inl rfl)))
  · exact Or.inr (Or.inr (Or.inr (Or.inr (Or.inl rfl))))
  · exact Or.inr (Or.inr (Or.inr (Or.inr (Or.inr (Or.inl rfl)))))
  · exact Or.inr (Or.inr (Or.inr (Or.inr (Or.inr (Or.inr rfl)))))
theorem law_gt {L i : Nat} (hL : L ≤ 2560) (hi : i ≤ 2560 + 5) : nI L - 5 < nI i ↔ L < i + 5 := by
  have e1 : (nI L).toInt = L := nI_toInt (by omega)
  have e2 : (nI i).toInt = i := nI_toInt (by omega)
  have e3 : (nI L - 5).toInt = (L : Int) - 5 := by
    rw [Int32.toInt_sub, e1, show (5 : Int32).toInt = 5 from rfl]
    exact Int.bmod_eq_of_le (by omega) (by omega)
  rw [Int32.lt_iff_toInt_lt, e2, e3]
  omega
def R_law : String := "CheriCoreLaw"
def lw_P (b : Addr) (xs : List Int32) (args : Array Value) (s : State) : Prop := args = #[.ref b] ∧ s.IntsAt b xs ∧ xs.length ≤ 2560 ∧ (Jvm.Cond.and given_1 narrow_1).before args s = true
def lw_Q (_ : Array Value) (s : State) (o : Outcome) (t : State) : Prop := o = .returned (some (.int 1)) ∧ Framed s o t [] 601024 7293034
def lw_Z (below : List Frame) (a : Array Value) (s : State) : State → Prop := fun t => ∃ o, t.status = .running ∧ Ended t below o ∧ lw_Q a s o t
/-- the law's own end, with 1 on the stack, nothing written that was there before, its room as the claim has it -/
theorem lw_ret {p : Program} {l : Launch} {e : Env} {s : State} {m : MethodId} {below : List Frame} {meth : Method} {c : Code} {b : Nat} (hx : p.tables.exec = Jvm.exec) (hb : c.code = code) (hr : meth.sig.returnType = ret) (hlocks : meth.locks = false) {pc : Nat} {H : Heap} {ls : Array Slot} (hdg : decode code pc = .ok (.ireturn, 1)) : W p l e room_1 s m #[Value.ref b] below meth c H [] 601024 7293034 (lw_Z below #[Value.ref b] s) (F0 m pc ls [.int 1]) := by
  intro T hT X
  obtain ⟨fs, hret, hrun, hended, hW, hframe⟩ := X.leave (v := some (.int 1)) (hlocks := hlocks) (fun h => by rw [hr] at h; cases h)
  have hmeth' : T.vm.method? m = some meth := X.method'
  refine ⟨T.setFrames fs, ?_, .returned (some (.int 1)), hrun, hended, rfl, ⟨_, rfl⟩, hW, hframe⟩
  jvm_step X.here [X.here.top, hx, hb, hdg, hmeth', hr, ret, narrow_b1]
  (try refine ⟨rfl, ?_⟩); (try refine ⟨rfl, ?_⟩)
  first | (intro acts; rw [hret _ acts rfl rfl rfl]) | rw [hret _ _ rfl rfl rfl]
  exact Steps.refl _
set_option maxHeartbeats 4000000 in
theorem L_word {p9 : Program} {l : Launch} {e9 : Env} {s9 : State} {m9 : MethodId} {b9 : List Frame} {me9 : Method} {c9 : Code} {b L : Nat} {xs : Nat → Int32} {D : va_G} {ti : Nat → ClassId} {co mo ou i cells slots : Nat} {Q9 : State → Prop} {H : Heap} {locs : List Loc} {ls : Array Slot} {wc wr : va_W} {f : Nat → Int64} {σ : KS} {st : Int32} {m0 : Nat} {th : Int32}
    (S : CallFix p9 m9 c9 code 7 s9 #[Value.ref b] TB "CheriCoreLaw") (hX : va_X b L xs s9 s9.heap) (hbl : b < s9.heap.size) (hN : NW s9) (hZ : ZA s9) (hL : L ≤ 2560) (hi : i + 5 ≤ L) (hroom : cells + 1 ≤ 601024 ∧ slots + 6 ≤ 7293034) (hK : KI ti co σ st m0 wc) (hR : RI ti mo σ st m0 th wr) (hm : m0 ≤ 8) (hw : Lv D clz (ty4 ti) (AL s9) s9.heap ((ou, lo ti f) :: (wc ++ wr)) s9 H locs) (hl : lv_has ls 7 [(4, .int (nI i)), (3, .ref ou), (2, .ref mo), (1, .ref co), (0, .ref b)])
    (htr : ∀ e, l.admits e → e.platform.stackTraces = false) (J : LJ p9 l e9 s9 m9 b9 me9 c9 b D ti co mo ou i (cells + 1) (slots + 6) Q9 811) : W p9 l e9 room_1 s9 m9 #[Value.ref b] b9 me9 c9 H locs cells slots Q9 (F0 m9 100 ls []) := by
  by_cases hb : isW (xs (i + 1)) = true
  · obtain ⟨n, hn, e⟩ := isW_nI hb
    have h1 := ck_word l D hK n hn (xs (i + 2))
    have h2 := rk_word l D hR n hn (xs (i + 2))
    rw [← e] at h1 h2
    exact L_word_g S hX hbl hN hZ hL hi hroom hK hR hm hw hl _ _ _ hm _ h1 h2 J
  · exact L_word_x S hX hbl hN hZ hL hi hroom hK hR hm hw hl (tk_word l D htr hK _ (bne hb) _) (rk_wordX l D hR _ (bne hb) _) J
set_option maxHeartbeats 4000000 in
theorem L_memory {p9 : Program} {l : Launch} {e9 : Env} {s9 : State} {m9 : MethodId} {b9 : List Frame} {me9 : Method} {c9 : Code} {b L : Nat} {xs : Nat → Int32} {D : va_G} {ti : Nat → ClassId} {co mo ou i cells slots : Nat} {Q9 : State → Prop} {H : Heap} {locs : List Loc} {ls : Array Slot} {wc wr : va_W} {f : Nat → Int64} {σ : KS} {st : Int32} {m0 : Nat} {th : Int32}
    (S : CallFix p9 m9 c9 code 7 s9 #[Value.ref b] TB "CheriCoreLaw") (hX : va_X b L xs s9 s9.heap) (hbl : b < s9.heap.size) (hN : NW s9) (hZ : ZA s9) (hL : L ≤ 2560) (hi : i + 5 ≤ L) (hroom : cells + 1 ≤ 601024 ∧ slots + 6 ≤ 7293034) (hK : KI ti co σ st m0 wc) (hR : RI ti mo σ st m0 th wr) (hm : m0 ≤ 8) (hw : Lv D clz (ty4 ti) (AL s9) s9.heap ((ou, lo ti f) :: (wc ++ wr)) s9 H locs) (hl : lv_has ls 7 [(4, .int (nI i)), (3, .ref ou), (2, .ref mo), (1, .ref co), (0, .ref b)])
    (htr : ∀ e, l.admits e → e.platform.stackTraces = false) (J : LJ p9 l e9 s9 m9 b9 me9 c9 b D ti co mo ou i (cells + 1) (slots + 6) Q9 811) : W p9 l e9 room_1 s9 m9 #[Value.ref b] b9 me9 c9 H locs cells slots Q9 (F0 m9 444 ls []) := by
  by_cases hb : isW (xs (i + 1)) = true
  · obtain ⟨n, hn, e⟩ := isW_nI hb
    have h1 := ck_memory l D hK n hn
    have h2 := rk_memory l D hR n hn
    rw [← e] at h1 h2
    exact L_memory_g S hX hbl hN hZ hL hi hroom hK hR hm hw hl _ _ _ hm _ h1 h2 J
  · exact L_memory_x S hX hbl hN hZ hL hi hroom hK hR hm hw hl (tk_memory l D htr hK _ (bne hb)) (rk_memoryX l D hR _ (bne hb)) J
set_option maxHeartbeats 4000000 in
theorem L_tag {p9 : Program} {l : Launch} {e9 : Env} {s9 : State} {m9 : MethodId} {b9 : List Frame} {me9 : Method} {c9 : Code} {b L : Nat} {xs : Nat → Int32} {D : va_G} {ti : Nat → ClassId} {co mo ou i cells slots : Nat} {Q9 : State → Prop} {H : Heap} {locs : List Loc} {ls : Array Slot} {wc wr : va_W} {f : Nat → Int64} {σ : KS} {st : Int32} {m0 : Nat} {th : Int32}
    (S : CallFix p9 m9 c9 code 7 s9 #[Value.ref b] TB "CheriCoreLaw") (hX : va_X b L xs s9 s9.heap) (hbl : b < s9.heap.size) (hN : NW s9) (hZ : ZA s9) (hL : L ≤ 2560) (hi : i + 5 ≤ L) (hroom : cells + 1 ≤ 601024 ∧ slots + 6 ≤ 7293034) (hK : KI ti co σ st m0 wc) (hR : RI ti mo σ st m0 th wr) (hm : m0 ≤ 8) (hw : Lv D clz (ty4 ti) (AL s9) s9.heap ((ou, lo ti f) :: (wc ++ wr)) s9 H locs) (hl : lv_has ls 7 [(4, .int (nI i)), (3, .ref ou), (2, .ref mo), (1, .ref co), (0, .ref b)])
    (htr : ∀ e, l.admits e → e.platform.stackTraces = false) (J : LJ p9 l e9 s9 m9 b9 me9 c9 b D ti co mo ou i (cells + 1) (slots + 6) Q9 811) : W p9 l e9 room_1 s9 m9 #[Value.ref b] b9 me9 c9 H locs cells slots Q9 (F0 m9 500 ls []) := by
  by_cases hb : isW (xs (i + 1)) = true
  · obtain ⟨n, hn, e⟩ := isW_nI hb
    have h1 := ck_tag l D hK n hn
    have h2 := rk_tag l D hR n hn
    rw [← e] at h1 h2
    exact L_tag_g S hX hbl hN hZ hL hi hroom hK hR hm hw hl _ _ _ hm _ h1 h2 J
  · exact L_tag_x S hX hbl hN hZ hL hi hroom hK hR hm hw hl (tk_tag l D htr hK _ (bne hb)) (rk_tagX l D hR _ (bne hb)) J
set_option maxHeartbeats 4000000 in
theorem L_put {p9 : Program} {l : Launch} {e9 : Env} {s9 : State} {m9 : MethodId} {b9 : List Frame} {me9 : Method} {c9 : Code} {b L : Nat} {xs : Nat → Int32} {D : va_G} {ti : Nat → ClassId} {co mo ou i cells slots : Nat} {Q9 : State → Prop} {H : Heap} {locs : List Loc} {ls : Array Slot} {wc wr : va_W} {f : Nat → Int64} {σ : KS} {st : Int32} {m0 : Nat} {th : Int32}
    (S : CallFix p9 m9 c9 code 7 s9 #[Value.ref b] TB "CheriCoreLaw") (hX : va_X b L xs s9 s9.heap) (hbl : b < s9.heap.size) (hN : NW s9) (hZ : ZA s9) (hL : L ≤ 2560) (hi : i + 5 ≤ L) (hroom : cells + 1 ≤ 601024 ∧ slots + 6 ≤ 7293034) (hK : KI ti co σ st m0 wc) (hR : RI ti mo σ st m0 th wr) (hm : m0 ≤ 8) (hw : Lv D clz (ty4 ti) (AL s9) s9.heap ((ou, lo ti f) :: (wc ++ wr)) s9 H locs) (hl : lv_has ls 7 [(4, .int (nI i)), (3, .ref ou), (2, .ref mo), (1, .ref co), (0, .ref b)])
    (htr : ∀ e, l.admits e → e.platform.stackTraces = false) (J : LJ p9 l e9 s9 m9 b9 me9 c9 b D ti co mo ou i (cells + 1) (slots + 6) Q9 811) : W p9 l e9 room_1 s9 m9 #[Value.ref b] b9 me9 c9 H locs cells slots Q9 (F0 m9 260 ls []) := by
  by_cases hb : (xs (i + 1)) < 1 ∨ 31 < (xs (i + 1))
  · exact L_put_x S hX hbl hN hZ hL hi hroom hK hR hm hw hl (tk_put l D htr hK _ hb _ _) (rk_putX l D hR _ hb _ _) J
  · obtain ⟨n, h1, h31, e⟩ := rng_of (x := (xs (i + 1))) (M := 31) (m := 1) (a := 1) (n := 31) rfl rfl (fun q => hb (Or.inl q)) (Int32.not_lt.mp (fun q => hb (Or.inr q)))
    have h1q := ck_put l D hK n h1 (by omega) (xs (i + 2)) (xs (i + 3))
    have h2 := rk_put l D hR n h1 (by omega) (xs (i + 2)) (xs (i + 3))
    rw [← e] at h1q h2
    exact L_put_g S hX hbl hN hZ hL hi hroom hK hR hm hw hl _ _ _ hm h1q h2 J
set_option maxHeartbeats 4000000 in
theorem L_told {p9 : Program} {l : Launch} {e9 : Env} {s9 : State} {m9 : MethodId} {b9 : List Frame} {me9 : Method} {c9 : Code} {b L : Nat} {xs : Nat → Int32} {D : va_G} {ti : Nat → ClassId} {co mo ou i cells slots : Nat} {Q9 : State → Prop} {H : Heap} {locs : List Loc} {ls : Array Slot} {wc wr : va_W} {f : Nat → Int64} {σ : KS} {st : Int32} {m0 : Nat} {th : Int32}
    (S : CallFix p9 m9 c9 code 7 s9 #[Value.ref b] TB "CheriCoreLaw") (hX : va_X b L xs s9 s9.heap) (hbl : b < s9.heap.size) (hN : NW s9) (hZ : ZA s9) (hL : L ≤ 2560) (hi : i + 5 ≤ L) (hroom : cells + 1 ≤ 601024 ∧ slots + 6 ≤ 7293034) (hK : KI ti co σ st m0 wc) (hR : RI ti mo σ st m0 th wr) (hm : m0 ≤ 8) (hw : Lv D clz (ty4 ti) (AL s9) s9.heap ((ou, lo ti f) :: (wc ++ wr)) s9 H locs) (hl : lv_has ls 7 [(4, .int (nI i)), (3, .ref ou), (2, .ref mo), (1, .ref co), (0, .ref b)])
    (htr : ∀ e, l.admits e → e.platform.stackTraces = false) (J : LJ p9 l e9 s9 m9 b9 me9 c9 b D ti co mo ou i (cells + 1) (slots + 6) Q9 811) : W p9 l e9 room_1 s9 m9 #[Value.ref b] b9 me9 c9 H locs cells slots Q9 (F0 m9 376 ls []) := by
  by_cases hb : (xs (i + 1)) < 0 ∨ 37 ≤ (xs (i + 1))
  · exact L_told_xX S hX hbl hN hZ hL hi hroom hK hR hm hw hl (tk_toldX l D htr hK _ hb _) (rk_toldX l D hR _ hb _) J
  · obtain ⟨n, -, h36, e⟩ := rng_of (x := (xs (i + 1))) (M := 36) (m := 0) (a := 0) (n := 36) rfl rfl (fun q => hb (Or.inl q)) (le_pred (k := 36) (a := 37) rfl rfl (fun q => hb (Or.inr q)))
    by_cases hx : (xs (i + 2)) < 0 ∨ 6 < (xs (i + 2))
    · have h1 := tk_toldY l D htr hK n (by omega) (xs (i + 2)) hx
      have h2 := rk_toldY l D hR n (by omega) (xs (i + 2)) hx
      rw [← e] at h1 h2
      exact L_told_xY S hX hbl hN hZ hL hi hroom hK hR hm hw hl h1 h2 J
    · have h1 := ck_told l D hK n (by omega) (xs (i + 2)) (up7_of hx)
      have h2 := rk_told l D hR n (by omega) (xs (i + 2)) (up7_of hx)
      rw [← e] at h1 h2
      exact L_told_g S hX hbl hN hZ hL hi hroom hK hR hm hw hl _ _ _ hm _ h1 h2 J
set_option maxHeartbeats 4000000 in
theorem L_count {p9 : Program} {l : Launch} {e9 : Env} {s9 : State} {m9 : MethodId} {b9 : List Frame} {me9 : Method} {c9 : Code} {b L : Nat} {xs : Nat → Int32} {D : va_G} {ti : Nat → ClassId} {co mo ou i cells slots : Nat} {Q9 : State → Prop} {H : Heap} {locs : List Loc} {ls : Array Slot} {wc wr : va_W} {f : Nat → Int64} {σ : KS} {st : Int32} {m0 : Nat} {th : Int32}
    (S : CallFix p9 m9 c9 code 7 s9 #[Value.ref b] TB "CheriCoreLaw") (hX : va_X b L xs s9 s9.heap) (hbl : b < s9.heap.size) (hN : NW s9) (hZ : ZA s9) (hL : L ≤ 2560) (hi : i + 5 ≤ L) (hroom : cells + 1 ≤ 601024 ∧ slots + 6 ≤ 7293034) (hK : KI ti co σ st m0 wc) (hR : RI ti mo σ st m0 th wr) (hm : m0 ≤ 8) (hw : Lv D clz (ty4 ti) (AL s9) s9.heap ((ou, lo ti f) :: (wc ++ wr)) s9 H locs) (hl : lv_has ls 7 [(4, .int (nI i)), (3, .ref ou), (2, .ref mo), (1, .ref co), (0, .ref b)])
    (htr : ∀ e, l.admits e → e.platform.stackTraces = false) (J : LJ p9 l e9 s9 m9 b9 me9 c9 b D ti co mo ou i (cells + 1) (slots + 6) Q9 811) : W p9 l e9 room_1 s9 m9 #[Value.ref b] b9 me9 c9 H locs cells slots Q9 (F0 m9 563 ls []) := by
  by_cases hx : (xs (i + 1)) < 0 ∨ 6 < (xs (i + 1))
  · exact L_count_x S hX hbl hN hZ hL hi hroom hK hR hm hw hl (tk_count l D htr hK _ hx) (rk_countX l D hR _ hx) J
  · exact L_count_g S hX hbl hN hZ hL hi hroom hK hR hm hw hl _ _ _ hm _ (ck_count l D hK _ (up7_of hx)) (rk_count l D hR hK.g4 _ (up7_of hx)) J
set_option maxHeartbeats 4000000 in
theorem L_pack {p9 : Program} {l : Launch} {e9 : Env} {s9 : State} {m9 : MethodId} {b9 : List Frame} {me9 : Method} {c9 : Code} {b L : Nat} {xs : Nat → Int32} {D : va_G} {ti : Nat → ClassId} {co mo ou i cells slots : Nat} {Q9 : State → Prop} {H : Heap} {locs : List Loc} {ls : Array Slot} {wc wr : va_W} {f : Nat → Int64} {σ : KS} {st : Int32} {m0 : Nat} {th : Int32}
    (S : CallFix p9 m9 c9 code 7 s9 #[Value.ref b] TB "CheriCoreLaw") (hX : va_X b L xs s9 s9.heap) (hbl : b < s9.heap.size) (hN : NW s9) (hZ : ZA s9) (hL : L ≤ 2560) (hi : i + 5 ≤ L) (hroom : cells + 1 ≤ 601024 ∧ slots + 6 ≤ 7293034) (hK : KI ti co σ st m0 wc) (hR : RI ti mo σ st m0 th wr) (hm : m0 ≤ 8) (hw : Lv D clz (ty4 ti) (AL s9) s9.heap ((ou, lo ti f) :: (wc ++ wr)) s9 H locs) (hl : lv_has ls 7 [(4, .int (nI i)), (3, .ref ou), (2, .ref mo), (1, .ref co), (0, .ref b)])
    (htr : ∀ e, l.admits e → e.platform.stackTraces = false) (J : LJ p9 l e9 s9 m9 b9 me9 c9 b D ti co mo ou i (cells + 1) (slots + 6) Q9 811) : W p9 l e9 room_1 s9 m9 #[Value.ref b] b9 me9 c9 H locs cells slots Q9 (F0 m9 619 ls []) := by
  by_cases hb : fitS (xs (i + 1)) (jsl (xs (i + 2)).toInt64 (32 : Int32) ||| ((xs (i + 3)).toInt64 &&& 4294967295)) = true
  · exact L_pack_g S hX hbl hN hZ hL hi hroom hK hR hm hw hl _ _ _ hm _ (ck_pack l D hK _ _ hb) (rk_pack l D hR _ _ hb) J
  · exact L_pack_x S hX hbl hN hZ hL hi hroom hK hR hm hw hl (tk_pack l D htr hK _ _ (bne hb)) (rk_packX l D hR _ _ (bne hb)) J
set_option maxHeartbeats 4000000 in
theorem L_run {p9 : Program} {l : Launch} {e9 : Env} {s9 : State} {m9 : MethodId} {b9 : List Frame} {me9 : Method} {c9 : Code} {b L : Nat} {xs : Nat → Int32} {D : va_G} {ti : Nat → ClassId} {co mo ou i cells slots : Nat} {Q9 : State → Prop} {H : Heap} {locs : List Loc} {ls : Array Slot} {wc wr : va_W} {f : Nat → Int64} {σ : KS} {st : Int32} {m0 : Nat} {th : Int32}
    (S : CallFix p9 m9 c9 code 7 s9 #[Value.ref b] TB "CheriCoreLaw") (hX : va_X b L xs s9 s9.heap) (hbl : b < s9.heap.size) (hN : NW s9) (hZ : ZA s9) (hL : L ≤ 2560) (hi : i + 5 ≤ L) (hroom : cells + 1 ≤ 601024 ∧ slots + 6 ≤ 7293034) (hK : KI ti co σ st m0 wc) (hR : RI ti mo σ st m0 th wr) (hm : m0 ≤ 8) (hw : Lv D clz (ty4 ti) (AL s9) s9.heap ((ou, lo ti f) :: (wc ++ wr)) s9 H locs) (hl : lv_has ls 7 [(4, .int (nI i)), (3, .ref ou), (2, .ref mo), (1, .ref co), (0, .ref b)])
    (htr : ∀ e, l.admits e → e.platform.stackTraces = false) (J : LJ p9 l e9 s9 m9 b9 me9 c9 b D ti co mo ou i (cells + 1) (slots + 6) Q9 811) : W p9 l e9 room_1 s9 m9 #[Value.ref b] b9 me9 c9 H locs cells slots Q9 (F0 m9 320 ls []) := by
  by_cases hb : (xs (i + 1)) < 1 ∨ 10000 < (xs (i + 1))
  · exact L_run_xX S hX hbl hN hZ hL hi hroom hK hR hm hw hl (tk_runX l D htr hK _ hb) (rk_runX l D hR _ hb) J
  · obtain ⟨n, h1, h2, e⟩ := rng_of (x := (xs (i + 1))) (M := 10000) (m := 1) (a := 1) (n := 10000) rfl rfl (fun q => hb (Or.inl q)) (Int32.not_lt.mp (fun q => hb (Or.inr q)))
    by_cases ha : σ.ha = true
    · have q1 := tk_runY l D htr hK ha n h1 h2
      have q2 := rk_runY l D hR ha n h1 h2
      rw [← e] at q1 q2
      exact L_run_xY S hX hbl hN hZ hL hi hroom hK hR hm hw hl q1 q2 J
    · have q1 := ck_run l D hK (bne ha) n h1 h2
      have q2 := rk_run l D hR (bne ha) n h1 h2
      rw [← e] at q1 q2
      exact L_run_g S hX hbl hN hZ hL hi hroom hK hR hm hw hl _ _ _ hm _ q1 q2 J
set_option maxHeartbeats 4000000 in
theorem L_root {p9 : Program} {l : Launch} {e9 : Env} {s9 : State} {m9 : MethodId} {b9 : List Frame} {me9 : Method} {c9 : Code} {b L : Nat} {xs : Nat → Int32} {D : va_G} {ti : Nat → ClassId} {co mo ou i cells slots : Nat} {Q9 : State → Prop} {H : Heap} {locs : List Loc} {ls : Array Slot} {wc wr : va_W} {f : Nat → Int64} {σ : KS} {st : Int32} {m0 : Nat} {th : Int32}
    (S : CallFix p9 m9 c9 code 7 s9 #[Value.ref b] TB "CheriCoreLaw") (hX : va_X b L xs s9 s9.heap) (hbl : b < s9.heap.size) (hN : NW s9) (hZ : ZA s9) (hL : L ≤ 2560) (hi : i + 5 ≤ L) (hroom : cells + 1 ≤ 601024 ∧ slots + 6 ≤ 7293034) (hK : KI ti co σ st m0 wc) (hR : RI ti mo σ st m0 th wr) (hm : m0 ≤ 8) (hw : Lv D clz (ty4 ti) (AL s9) s9.heap ((ou, lo ti f) :: (wc ++ wr)) s9 H locs) (hl : lv_has ls 7 [(4, .int (nI i)), (3, .ref ou), (2, .ref mo), (1, .ref co), (0, .ref b)])
    (htr : ∀ e, l.admits e → e.platform.stackTraces = false) (J : LJ p9 l e9 s9 m9 b9 me9 c9 b D ti co mo ou i (cells + 1) (slots + 6) Q9 811) : W p9 l e9 room_1 s9 m9 #[Value.ref b] b9 me9 c9 H locs cells slots Q9 (F0 m9 168 ls []) := by
  by_cases hb : (xs (i + 1)) < 1 ∨ 37 ≤ (xs (i + 1))
  · exact L_root_xX S hX hbl hN hZ hL hi hroom hK hR hm hw hl (tk_rootX l D htr hK _ hb _ _ _) (rk_rootX l D hR _ hb _ _ _) J
  · obtain ⟨n, h1, h36, e⟩ := rng_of (x := (xs (i + 1))) (M := 36) (m := 1) (a := 1) (n := 36) rfl rfl (fun q => hb (Or.inl q)) (le_pred (k := 36) (a := 37) rfl rfl (fun q => hb (Or.inr q)))
    by_cases hy : fitS (xs (i + 2)) (xs (i + 3)).toInt64 = false ∨ (xs (i + 4)) < 0 ∨ 4095 < (xs (i + 4))
    · have q1 := tk_rootY l D htr hK n h1 (by omega) (xs (i + 2)) (xs (i + 3)) (xs (i + 4)) hy
      have q2 := rk_rootY l D hR n h1 (by omega) (xs (i + 2)) (xs (i + 3)) (xs (i + 4)) hy
      rw [← e] at q1 q2
      exact L_root_xY S hX hbl hN hZ hL hi hroom hK hR hm hw hl q1 q2 J
    · have hf : fitS (xs (i + 2)) (xs (i + 3)).toInt64 = true := bnf (fun q => hy (Or.inl q))
      have hp0 : ¬ (xs (i + 4)) < 0 := fun q => hy (Or.inr (Or.inl q))
      have hp1 : (xs (i + 4)) ≤ 4095 := Int32.not_lt.mp (fun q => hy (Or.inr (Or.inr q)))
      by_cases h8 : m0 = 8
      · subst h8
        have q1 := tk_rootZ l D htr hK n h1 (by omega) (xs (i + 2)) (xs (i + 3)) (xs (i + 4)) hf hp0 hp1
        have q2 := rk_rootZ l D hR n h1 (by omega) (xs (i + 2)) (xs (i + 3)) (xs (i + 4)) hf hp0 hp1
        rw [← e] at q1 q2
        exact L_root_xZ S hX hbl hN hZ hL hi hroom hK hR hm hw hl q1 q2 J
      · have hm8 : m0 < 8 := by omega
        have q1 := ck_root l D hK hm8 n h1 (by omega) (xs (i + 2)) (xs (i + 3)) (xs (i + 4)) hf hp0 hp1
        have q2 := rk_root l D hR hm8 n h1 (by omega) (xs (i + 2)) (xs (i + 3)) (xs (i + 4)) hf hp0 hp1
        rw [← e] at q1 q2
        exact L_root_g S hX hbl hN hZ hL hi hroom hK hR hm hw hl _ _ _ hm8 _ q1 q2 J
theorem L_811 {p9 : Program} {l : Launch} {e9 : Env} {s9 : State} {m9 : MethodId} {b9 : List Frame} {me9 : Method} {c9 : Code} {b : Nat} {D : va_G} {ti : Nat → ClassId} {co mo ou : Nat} {i cells slots : Nat} {Q9 : State → Prop} (S : CallFix p9 m9 c9 code 7 s9 #[Value.ref b] TB "CheriCoreLaw") (h : LJ p9 l e9 s9 m9 b9 me9 c9 b D ti co mo ou (i + 5) cells slots Q9 23) : LJ p9 l e9 s9 m9 b9 me9 c9 b D ti co mo ou i cells slots Q9 811 := by
  intro H locs ls wc wr f σ st m0 th hK hR hm hw hl
  obtain ⟨hx, hb, hml, hown, hts⟩ := id S
  refine lv_iinc (k := 0) (v := nI (i + 5)) (lv' := [(4, .int (nI (i + 5))), (3, .ref ou), (2, .ref mo), (1, .ref co), (0, .ref b)]) hx hb d_Law_law_811 hl rfl (nI_add i 5) (by decide) rfl (fun ls hl => ?_)
  refine lv_goto hx hb d_Law_law_814 rfl ?_
  exact h _ _ _ _ _ _ _ _ _ _ hK hR hm hw hl
set_option maxHeartbeats 4000000 in
set_option maxRecDepth 100000 in
theorem L_23 {p9 : Program} {l : Launch} {e9 : Env} {s9 : State} {m9 : MethodId} {b9 : List Frame} {me9 : Method} {c9 : Code} {b L : Nat} {xs : Nat → Int32} {D : va_G} {ti : Nat → ClassId} {co mo ou : Nat} (S : CallFix p9 m9 c9 code 7 s9 #[Value.ref b] TB "CheriCoreLaw") (hr : me9.sig.returnType = ret) (hlk : me9.locks = false) (hX : va_X b L xs s9 s9.heap) (hbl : b < s9.heap.size) (hN : NW s9) (hZ : ZA s9) (hL : L ≤ 2560) (htr : ∀ e, l.admits e → e.platform.stackTraces = false) {i cells slots : Nat} (hi0 : i ≤ 2560 + 5) (hroom0 : cells ≤ 601024 ∧ slots ≤ 7293034) (hroom1 : i + 5 ≤ L → cells + 1 ≤ 601024 ∧ slots + 6 ≤ 7293034)
    (IH : i + 5 ≤ L → LJ p9 l e9 s9 m9 b9 me9 c9 b D ti co mo ou (i + 5) (cells + 1) (slots + 6) (lw_Z b9 #[Value.ref b] s9) 23) : LJ p9 l e9 s9 m9 b9 me9 c9 b D ti co mo ou i cells slots (lw_Z b9 #[Value.ref b] s9) 23 := by
  intro H locs ls wc wr f σ st m0 th hK hR hm hw hl
  obtain ⟨hx, hb, hml, hown, hts⟩ := id S
  refine lv_iload hx hb d_Law_law_23 (lv_at hl 0 rfl) ?_
  refine lv_aload_n hx hb d_Law_law_25 rfl (lv_at hl 4 rfl) ?_
  refine va_slen hx hb hX hbl (Nat.not_le.mpr hbl) hw.2.2.2 d_Law_law_26 ?_
  refine q_topi (z := nI L) rfl ?_
  refine lv_iconst (v := 5) hx hb d_Law_law_27 (by decide) ?_
  refine lv_isub hx hb d_Law_law_28 ?_
  refine lv_icmp_gt hx hb d_Law_law_29 rfl (fun h29 => ?_) (fun h29 => ?_)
  · refine lv_iconst (v := 1) hx hb d_Law_law_817 (by decide) ?_
    refine W.forget (locs := []) (L := locs) hw.2.2.2.2.2 ?_
    refine W.widen (k := 601024) (n := 7293034) hroom0.1 hroom0.2 ?_
    exact lw_ret hx hb hr hlk d_Law_law_818
  · have hi : i + 5 ≤ L := Nat.le_of_not_lt (fun q => h29 ((law_gt hL hi0).mpr q))
    have JN : LJ p9 l e9 s9 m9 b9 me9 c9 b D ti co mo ou i (cells + 1) (slots + 6) (lw_Z b9 #[Value.ref b] s9) 811 := L_811 S (IH hi)
    have hroom : cells + 1 ≤ 601024 ∧ slots + 6 ≤ 7293034 := hroom1 hi
    refine lv_aload_n hx hb d_Law_law_32 rfl (lv_at hl 4 rfl) ?_
    refine lv_iload hx hb d_Law_law_33 (lv_at hl 0 rfl) ?_
    refine law_sld (k := i) S hX hbl hw (by omega) (by omega) d_Law_law_35 ?_
    refine lv_bipush (v := 15) hx hb d_Law_law_36 (by decide) ?_
    refine lv_iand hx hb d_Law_law_38 ?_
    refine lv_topi (fun x39 e39 => ?_)
    by_cases hc39_0 : x39 = (0 : Int32)
    · refine lv_tableIn hx hb d_Law_law_39 (by rw [hc39_0]; decide) (by rw [hc39_0]; decide) (by rw [hc39_0]; rfl) rfl ?_
      exact L_word S hX hbl hN hZ hL hi hroom hK hR hm hw (lv_sub (l' := [(4, .int (nI i)), (3, .ref ou), (2, .ref mo), (1, .ref co), (0, .ref b)]) hl [0, 1, 2, 3, 4] rfl) htr JN
    by_cases hc39_1 : x39 = (1 : Int32)
    · refine lv_tableIn hx hb d_Law_law_39 (by rw [hc39_1]; decide) (by rw [hc39_1]; decide) (by rw [hc39_1]; rfl) rfl ?_
      exact L_root S hX hbl hN hZ hL hi hroom hK hR hm hw (lv_sub (l' := [(4, .int (nI i)), (3, .ref ou), (2, .ref mo), (1, .ref co), (0, .ref b)]) hl [0, 1, 2, 3, 4] rfl) htr JN
    by_cases hc39_2 : x39 = (2 : Int32)
    · refine lv_tableIn hx hb d_Law_law_39 (by rw [hc39_2]; decide) (by rw [hc39_2]; decide) (by rw [hc39_2]; rfl) rfl ?_
      exact L_put S hX hbl hN hZ hL hi hroom hK hR hm hw (lv_sub (l' := [(4, .int (nI i)), (3, .ref ou), (2, .ref mo), (1, .ref co), (0, .ref b)]) hl [0, 1, 2, 3, 4] rfl) htr JN
    by_cases hc39_3 : x39 = (3 : Int32)
    · refine lv_tableIn hx hb d_Law_law_39 (by rw [hc39_3]; decide) (by rw [hc39_3]; decide) (by rw [hc39_3]; rfl) rfl ?_
      exact L_run S hX hbl hN hZ hL hi hroom hK hR hm hw (lv_sub (l' := [(4, .int (nI i)), (3, .ref ou), (2, .ref mo), (1, .ref co), (0, .ref b)]) hl [0, 1, 2, 3, 4] rfl) htr JN
    by_cases hc39_4 : x39 = (4 : Int32)
    · refine lv_tableIn hx hb d_Law_law_39 (by rw [hc39_4]; decide) (by rw [hc39_4]; decide) (by rw [hc39_4]; rfl) rfl ?_
      exact L_told S hX hbl hN hZ hL hi hroom hK hR hm hw (lv_sub (l' := [(4, .int (nI i)), (3, .ref ou), (2, .ref mo), (1, .ref co), (0, .ref b)]) hl [0, 1, 2, 3, 4] rfl) htr JN
    by_cases hc39_5 : x39 = (5 : Int32)
    · refine lv_tableIn hx hb d_Law_law_39 (by rw [hc39_5]; decide) (by rw [hc39_5]; decide) (by rw [hc39_5]; rfl) rfl ?_
      exact L_memory S hX hbl hN hZ hL hi hroom hK hR hm hw (lv_sub (l' := [(4, .int (nI i)), (3, .ref ou), (2, .ref mo), (1, .ref co), (0, .ref b)]) hl [0, 1, 2, 3, 4] rfl) htr JN
    by_cases hc39_6 : x39 = (6 : Int32)
    · refine lv_tableIn hx hb d_Law_law_39 (by rw [hc39_6]; decide) (by rw [hc39_6]; decide) (by rw [hc39_6]; rfl) rfl ?_
      exact L_tag S hX hbl hN hZ hL hi hroom hK hR hm hw (lv_sub (l' := [(4, .int (nI i)), (3, .ref ou), (2, .ref mo), (1, .ref co), (0, .ref b)]) hl [0, 1, 2, 3, 4] rfl) htr JN
    by_cases hc39_7 : x39 = (7 : Int32)
    · refine lv_tableIn hx hb d_Law_law_39 (by rw [hc39_7]; decide) (by rw [hc39_7]; decide) (by rw [hc39_7]; rfl) rfl ?_
      exact L_count S hX hbl hN hZ hL hi hroom hK hR hm hw (lv_sub (l' := [(4, .int (nI i)), (3, .ref ou), (2, .ref mo), (1, .ref co), (0, .ref b)]) hl [0, 1, 2, 3, 4] rfl) htr JN
    by_cases hc39_8 : x39 = (8 : Int32)
    · refine lv_tableIn hx hb d_Law_law_39 (by rw [hc39_8]; decide) (by rw [hc39_8]; decide) (by rw [hc39_8]; rfl) rfl ?_
      exact L_pack S hX hbl hN hZ hL hi hroom hK hR hm hw (lv_sub (l' := [(4, .int (nI i)), (3, .ref ou), (2, .ref mo), (1, .ref co), (0, .ref b)]) hl [0, 1, 2, 3, 4] rfl) htr JN
    by_cases hc39_9 : x39 = (9 : Int32)
    · refine lv_tableIn hx hb d_Law_law_39 (by rw [hc39_9]; decide) (by rw [hc39_9]; decide) (by rw [hc39_9]; rfl) rfl ?_
      exact L_bound S hX hbl hN hZ hL hi hroom hK hR hm hw (lv_sub (l' := [(4, .int (nI i)), (3, .ref ou), (2, .ref mo), (1, .ref co), (0, .ref b)]) hl [0, 1, 2, 3, 4] rfl) JN
    by_cases hc39_10 : x39 = (10 : Int32)
    · refine lv_tableIn hx hb d_Law_law_39 (by rw [hc39_10]; decide) (by rw [hc39_10]; decide) (by rw [hc39_10]; rfl) rfl ?_
      exact L_grown S hX hbl hN hZ hL hi hroom hK hR hm hw (lv_sub (l' := [(4, .int (nI i)), (3, .ref ou), (2, .ref mo), (1, .ref co), (0, .ref b)]) hl [0, 1, 2, 3, 4] rfl) JN
    by_cases hc39_11 : x39 = (11 : Int32)
    · refine lv_tableIn hx hb d_Law_law_39 (by rw [hc39_11]; decide) (by rw [hc39_11]; decide) (by rw [hc39_11]; rfl) rfl ?_
      exact L_check S hX hbl hN hZ hL hi hroom hK hR hm hw (lv_sub (l' := [(4, .int (nI i)), (3, .ref ou), (2, .ref mo), (1, .ref co), (0, .ref b)]) hl [0, 1, 2, 3, 4] rfl) JN
    refine lv_tableOut hx hb d_Law_law_39 (by have := lv_neT hc39_0 (a := 0) rfl; have := lv_neT hc39_1 (a := 1) rfl; have := lv_neT hc39_2 (a := 2) rfl; have := lv_neT hc39_3 (a := 3) rfl; have := lv_neT hc39_4 (a := 4) rfl; have := lv_neT hc39_5 (a := 5) rfl; have := lv_neT hc39_6 (a := 6) rfl; have := lv_neT hc39_7 (a := 7) rfl; have := lv_neT hc39_8 (a := 8) rfl; have := lv_neT hc39_9 (a := 9) rfl; have := lv_neT hc39_10 (a := 10) rfl; have := lv_neT hc39_11 (a := 11) rfl; omega) rfl ?_
    refine W.widen (k := cells + 1) (n := slots + 6) (by omega) (by omega) ?_
    exact JN _ _ _ _ _ _ _ _ _ _ hK hR hm hw (lv_sub (l' := [(4, .int (nI i)), (3, .ref ou), (2, .ref mo), (1, .ref co), (0, .ref b)]) hl [0, 1, 2, 3, 4] rfl)
theorem L_loop {p9 : Program} {l : Launch} {e9 : Env} {s9 : State} {m9 : MethodId} {b9 : List Frame} {me9 : Method} {c9 : Code} {b L : Nat} {xs : Nat → Int32} {D : va_G} {ti : Nat → ClassId} {co mo ou : Nat} (S : CallFix p9 m9 c9 code 7 s9 #[Value.ref b] TB "CheriCoreLaw") (hr : me9.sig.returnType = ret) (hlk : me9.locks = false) (hX : va_X b L xs s9 s9.heap) (hbl : b < s9.heap.size) (hN : NW s9) (hZ : ZA s9) (hL : L ≤ 2560) (htr : ∀ e, l.admits e → e.platform.stackTraces = false) : ∀ (n i cells slots : Nat), L < i + 5 * (n + 1) → i ≤ 2560 + 5 → cells + n ≤ 601024 ∧ slots + 6 * n ≤ 7293034 → LJ p9 l e9 s9 m9 b9 me9 c9 b D ti co mo ou i cells slots (lw_Z b9 #[Value.ref b] s9) 23 := by
  intro n
  induction n with
  | zero =>
    intro i cells slots h1 h2 h3
    exact L_23 S hr hlk hX hbl hN hZ hL htr h2 ⟨by omega, by omega⟩ (fun h => by omega) (fun h => by omega)
  | succ n ih =>
    intro i cells slots h1 h2 h3
    exact L_23 S hr hlk hX hbl hN hZ hL htr h2 ⟨by omega, by omega⟩ (fun h => ⟨by omega, by omega⟩) (fun h => ih (i + 5) (cells + 1) (slots + 6) (by omega) (by omega) ⟨by omega, by omega⟩)
