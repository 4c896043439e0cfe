/-! The law's wrappers. -/
abbrev lo (ti : Nat → ClassId) (f : Nat → Int64) : va_E := .inl (ti 2, 1, .inr (.inl f))
def lb (t : Bool) : Int64 := if t = false then 0 else 1
theorem cons_at {x : Nat × va_E} {wc : va_W} {k : Nat} {q : Nat × va_E} (h : wc[k]? = some q) : (x :: wc)[k + 1]? = some q := by
  rw [List.getElem?_cons_succ]
  exact h
theorem Pz.cons {wc : va_W} {P : va_W → Prop} (z : Pz wc P) {A : Nat → Prop} {a : Nat} {x x' : va_E} (h : va_D A ((a, x) :: wc)) : va_D A ((a, x') :: z.1) :=
  qD_perm (by simp only [List.map_cons]; exact z.2.2.cons a) h
theorem Lv.tl {D : va_G} {cl : List vw_C} {tys : List (ClassId × FieldType)} {A : Nat → Prop} {H0 H : Heap} {x : Nat × va_E} {wc : va_W} {s : State} {locs : List Loc} (hw : Lv D cl tys A H0 (x :: wc) s H locs) : Lv D cl tys A H0 wc s H locs := by
  have hl : ∀ (k : Nat) (q : Nat × va_E), wc[k]? = some q → (x :: wc)[k + 1]? = some q := fun k q hk => cons_at hk
  exact ⟨hw.1.by (fun k => k + 1) hl, hw.2.1, hw.2.2.1.by (fun k => k + 1) hl (fun i j _ _ e => by have e' : i + 1 = j + 1 := e; omega), hw.2.2.2⟩
theorem cw_vT {R : Room} {s : State} {args : Array Value} {own C : String} {index maxL n mc ms : Nat} {y : MethodName} {bytes : ByteArray} {ret : Option FieldType} {rm : Room} (hts : ∀ w ∈ TB, w.before args s = true) (hl : Cond.methodLink own index y ∈ TB) (k : Ce y C bytes maxL ret n) (hrc : rm.cells = mc) (hrs : rm.slots = ms) (hR : rm.frames + 1 ≤ R.frames ∧ 8 + (maxL + 11) + rm.locals ≤ R.locals) : CallW R s args own C index y bytes maxL ret (wl y bytes maxL ret) rm mc ms n := by
  obtain ⟨k1, k2, k3, k4, k5⟩ := k
  refine cwV n hts (TB_in fun w hw => ?_) rfl hrc hrs k5 hR
  unfold wsV at hw
  rcases List.mem_append.mp hw with h | h
  · simp only [List.mem_cons, List.not_mem_nil, or_false] at h
    rcases h with rfl | rfl | rfl | rfl
    · exact hl
    · exact k1
    · exact k2
    · exact k3
  · exact wl_in k4 w h
theorem TW.call {ic ix : Nat} {X tx : String} (ho : own_ok ic X) (U : State) (g : JFrame) (mk : MethodId) (a : Array Value) (h : TW ic X ix tx U) : TW ic X ix tx (U.calling g mk a) :=
  h.moved ho (State.WarmedH.refl U) (fun _ _ => rfl)
theorem tb_2_188 : (Jvm.Cond.codeWith ({ cls := "CheriCoreLaw", name := "word", desc := "(LCheriCore;II[J)I" } : Jvm.MethodName) method_3_code (5 : Nat) (Option.some Jvm.ClassFile.FieldType.int) [((0 : Nat), (10 : Nat), (13 : Nat), (13 : Nat))]) ∈ TB := tbm_2 (List.mem_of_getElem? (i := 188) (rfl))
theorem tb_3_136 : (Jvm.Cond.codeWith ({ cls := "CheriCoreLaw", name := "put", desc := "(LCheriCore;III)I" } : Jvm.MethodName) method_5_code (5 : Nat) (Option.some Jvm.ClassFile.FieldType.int) [((0 : Nat), (7 : Nat), (10 : Nat), (13 : Nat))]) ∈ TB := tbm_3 (List.mem_of_getElem? (i := 136) (rfl))
theorem tb_3_143 : (Jvm.Cond.codeWith ({ cls := "CheriCoreLaw", name := "run", desc := "(LCheriCore;I[J)I" } : Jvm.MethodName) method_6_code (4 : Nat) (Option.some Jvm.ClassFile.FieldType.int) [((0 : Nat), (9 : Nat), (12 : Nat), (19 : Nat)), ((0 : Nat), (9 : Nat), (15 : Nat), (21 : Nat))]) ∈ TB := tbm_3 (List.mem_of_getElem? (i := 143) (rfl))
theorem tb_3_66 : (Jvm.Cond.codeWith ({ cls := "CheriCoreLaw", name := "root", desc := "(LCheriCore;IIII[J)I" } : Jvm.MethodName) method_4_code (7 : Nat) (Option.some Jvm.ClassFile.FieldType.int) [((0 : Nat), (14 : Nat), (17 : Nat), (13 : Nat)), ((0 : Nat), (14 : Nat), (21 : Nat), (19 : Nat)), ((0 : Nat), (14 : Nat), (25 : Nat), (21 : Nat))]) ∈ TB := tbm_3 (List.mem_of_getElem? (i := 66) (rfl))
theorem tb_4_231 : (Jvm.Cond.codeWith ({ cls := "CheriCoreLaw", name := "told", desc := "(LCheriCore;II[J)I" } : Jvm.MethodName) method_7_code (5 : Nat) (Option.some Jvm.ClassFile.FieldType.int) [((0 : Nat), (10 : Nat), (13 : Nat), (13 : Nat)), ((0 : Nat), (10 : Nat), (17 : Nat), (19 : Nat))]) ∈ TB := tbm_4 (List.mem_of_getElem? (i := 231) (rfl))
theorem tb_5_10 : (Jvm.Cond.codeWith ({ cls := "CheriCoreLaw", name := "tag", desc := "(LCheriCore;I[J)I" } : Jvm.MethodName) method_9_code (4 : Nat) (Option.some Jvm.ClassFile.FieldType.int) [((0 : Nat), (16 : Nat), (19 : Nat), (13 : Nat))]) ∈ TB := tbm_5 (List.mem_of_getElem? (i := 10) (rfl))
theorem tb_5_17 : (Jvm.Cond.codeWith ({ cls := "CheriCoreLaw", name := "count", desc := "(LCheriCore;I[J)I" } : Jvm.MethodName) method_10_code (4 : Nat) (Option.some Jvm.ClassFile.FieldType.int) [((0 : Nat), (9 : Nat), (12 : Nat), (19 : Nat))]) ∈ TB := tbm_5 (List.mem_of_getElem? (i := 17) (rfl))
theorem tb_5_29 : (Jvm.Cond.codeWith ({ cls := "CheriCoreLaw", name := "pack", desc := "(LCheriCore;IJ[J)I" } : Jvm.MethodName) method_11_code (6 : Nat) (Option.some Jvm.ClassFile.FieldType.int) [((0 : Nat), (11 : Nat), (14 : Nat), (19 : Nat))]) ∈ TB := tbm_5 (List.mem_of_getElem? (i := 29) (rfl))
theorem tb_5_3 : (Jvm.Cond.codeWith ({ cls := "CheriCoreLaw", name := "memory", desc := "(LCheriCore;I[J)I" } : Jvm.MethodName) method_8_code (4 : Nat) (Option.some Jvm.ClassFile.FieldType.int) [((0 : Nat), (9 : Nat), (12 : Nat), (13 : Nat))]) ∈ TB := tbm_5 (List.mem_of_getElem? (i := 3) (rfl))
abbrev b_Law_word : ByteArray := method_3_code
def y_Law_word : MethodName := ⟨"CheriCoreLaw", "word", "(LCheriCore;II[J)I"⟩
abbrev hh_Law_word : List (Nat × Nat × Nat × Nat) := [(0, 10, 13, 13)]
theorem k_Law_word : Csw y_Law_word b_Law_word 5 (some .int) hh_Law_word 4 := ⟨tb_2_187, tb_1_0, tb_2_188, by decide +kernel⟩
theorem d_Law_word_0 : decode b_Law_word 0 = .ok (.aload_n 3, 1) := by decide +kernel
theorem d_Law_word_1 : decode b_Law_word 1 = .ok (.iconst 0, 1) := by decide +kernel
theorem d_Law_word_2 : decode b_Law_word 2 = .ok (.aload_n 0, 1) := by decide +kernel
theorem d_Law_word_3 : decode b_Law_word 3 = .ok (.iload_n 1, 1) := by decide +kernel
theorem d_Law_word_4 : decode b_Law_word 4 = .ok (.iload_n 2, 1) := by decide +kernel
theorem d_Law_word_5 : decode b_Law_word 5 = .ok (.invokevirtual 7, 3) := by decide +kernel
theorem d_Law_word_8 : decode b_Law_word 8 = .ok (.i2l, 1) := by decide +kernel
theorem d_Law_word_9 : decode b_Law_word 9 = .ok (.lastore, 1) := by decide +kernel
theorem d_Law_word_10 : decode b_Law_word 10 = .ok (.goto 7, 3) := by decide +kernel
theorem d_Law_word_13 : decode b_Law_word 13 = .ok (.astore 4, 2) := by decide +kernel
theorem d_Law_word_15 : decode b_Law_word 15 = .ok (.iconst 1, 1) := by decide +kernel
theorem d_Law_word_16 : decode b_Law_word 16 = .ok (.ireturn, 1) := by decide +kernel
theorem d_Law_word_17 : decode b_Law_word 17 = .ok (.iconst 0, 1) := by decide +kernel
theorem d_Law_word_18 : decode b_Law_word 18 = .ok (.ireturn, 1) := by decide +kernel
abbrev b_Law_root : ByteArray := method_4_code
def y_Law_root : MethodName := ⟨"CheriCoreLaw", "root", "(LCheriCore;IIII[J)I"⟩
abbrev hh_Law_root : List (Nat × Nat × Nat × Nat) := [(0, 14, 17, 13), (0, 14, 21, 19), (0, 14, 25, 21)]
theorem k_Law_root : Csw y_Law_root b_Law_root 7 (some .int) hh_Law_root 6 := ⟨tb_3_65, tb_1_0, tb_3_66, by decide +kernel⟩
theorem d_Law_root_0 : decode b_Law_root 0 = .ok (.aload 5, 2) := by decide +kernel
theorem d_Law_root_2 : decode b_Law_root 2 = .ok (.iconst 0, 1) := by decide +kernel
theorem d_Law_root_3 : decode b_Law_root 3 = .ok (.aload_n 0, 1) := by decide +kernel
theorem d_Law_root_4 : decode b_Law_root 4 = .ok (.iload_n 1, 1) := by decide +kernel
theorem d_Law_root_5 : decode b_Law_root 5 = .ok (.iload_n 2, 1) := by decide +kernel
theorem d_Law_root_6 : decode b_Law_root 6 = .ok (.iload_n 3, 1) := by decide +kernel
theorem d_Law_root_7 : decode b_Law_root 7 = .ok (.iload 4, 2) := by decide +kernel
theorem d_Law_root_9 : decode b_Law_root 9 = .ok (.invokevirtual 15, 3) := by decide +kernel
theorem d_Law_root_12 : decode b_Law_root 12 = .ok (.i2l, 1) := by decide +kernel
theorem d_Law_root_13 : decode b_Law_root 13 = .ok (.lastore, 1) := by decide +kernel
theorem d_Law_root_14 : decode b_Law_root 14 = .ok (.goto 15, 3) := by decide +kernel
theorem d_Law_root_17 : decode b_Law_root 17 = .ok (.astore 6, 2) := by decide +kernel
theorem d_Law_root_19 : decode b_Law_root 19 = .ok (.iconst 1, 1) := by decide +kernel
theorem d_Law_root_20 : decode b_Law_root 20 = .ok (.ireturn, 1) := by decide +kernel
theorem d_Law_root_21 : decode b_Law_root 21 = .ok (.astore 6, 2) := by decide +kernel
theorem d_Law_root_23 : decode b_Law_root 23 = .ok (.iconst 2, 1) := by decide +kernel
theorem d_Law_root_24 : decode b_Law_root 24 = .ok (.ireturn, 1) := by decide +kernel
theorem d_Law_root_25 : decode b_Law_root 25 = .ok (.astore 6, 2) := by decide +kernel
theorem d_Law_root_27 : decode b_Law_root 27 = .ok (.iconst 3, 1) := by decide +kernel
theorem d_Law_root_28 : decode b_Law_root 28 = .ok (.ireturn, 1) := by decide +kernel
theorem d_Law_root_29 : decode b_Law_root 29 = .ok (.iconst 0, 1) := by decide +kernel
theorem d_Law_root_30 : decode b_Law_root 30 = .ok (.ireturn, 1) := by decide +kernel
abbrev b_Law_put : ByteArray := method_5_code
def y_Law_put : MethodName := ⟨"CheriCoreLaw", "put", "(LCheriCore;III)I"⟩
abbrev hh_Law_put : List (Nat × Nat × Nat × Nat) := [(0, 7, 10, 13)]
theorem k_Law_put : Csw y_Law_put b_Law_put 5 (some .int) hh_Law_put 4 := ⟨tb_3_135, tb_1_0, tb_3_136, by decide +kernel⟩
theorem d_Law_put_0 : decode b_Law_put 0 = .ok (.aload_n 0, 1) := by decide +kernel
theorem d_Law_put_1 : decode b_Law_put 1 = .ok (.iload_n 1, 1) := by decide +kernel
theorem d_Law_put_2 : decode b_Law_put 2 = .ok (.iload_n 2, 1) := by decide +kernel
theorem d_Law_put_3 : decode b_Law_put 3 = .ok (.iload_n 3, 1) := by decide +kernel
theorem d_Law_put_4 : decode b_Law_put 4 = .ok (.invokevirtual 23, 3) := by decide +kernel
theorem d_Law_put_7 : decode b_Law_put 7 = .ok (.goto 7, 3) := by decide +kernel
theorem d_Law_put_10 : decode b_Law_put 10 = .ok (.astore 4, 2) := by decide +kernel
theorem d_Law_put_12 : decode b_Law_put 12 = .ok (.iconst 1, 1) := by decide +kernel
theorem d_Law_put_13 : decode b_Law_put 13 = .ok (.ireturn, 1) := by decide +kernel
theorem d_Law_put_14 : decode b_Law_put 14 = .ok (.iconst 0, 1) := by decide +kernel
theorem d_Law_put_15 : decode b_Law_put 15 = .ok (.ireturn, 1) := by decide +kernel
abbrev b_Law_run : ByteArray := method_6_code
def y_Law_run : MethodName := ⟨"CheriCoreLaw", "run", "(LCheriCore;I[J)I"⟩
abbrev hh_Law_run : List (Nat × Nat × Nat × Nat) := [(0, 9, 12, 19), (0, 9, 15, 21)]
theorem k_Law_run : Csw y_Law_run b_Law_run 4 (some .int) hh_Law_run 3 := ⟨tb_3_142, tb_1_0, tb_3_143, by decide +kernel⟩
theorem d_Law_run_0 : decode b_Law_run 0 = .ok (.aload_n 2, 1) := by decide +kernel
theorem d_Law_run_1 : decode b_Law_run 1 = .ok (.iconst 0, 1) := by decide +kernel
theorem d_Law_run_2 : decode b_Law_run 2 = .ok (.aload_n 0, 1) := by decide +kernel
theorem d_Law_run_3 : decode b_Law_run 3 = .ok (.iload_n 1, 1) := by decide +kernel
theorem d_Law_run_4 : decode b_Law_run 4 = .ok (.invokevirtual 27, 3) := by decide +kernel
theorem d_Law_run_7 : decode b_Law_run 7 = .ok (.i2l, 1) := by decide +kernel
theorem d_Law_run_8 : decode b_Law_run 8 = .ok (.lastore, 1) := by decide +kernel
theorem d_Law_run_9 : decode b_Law_run 9 = .ok (.goto 9, 3) := by decide +kernel
theorem d_Law_run_12 : decode b_Law_run 12 = .ok (.astore_n 3, 1) := by decide +kernel
theorem d_Law_run_13 : decode b_Law_run 13 = .ok (.iconst 1, 1) := by decide +kernel
theorem d_Law_run_14 : decode b_Law_run 14 = .ok (.ireturn, 1) := by decide +kernel
theorem d_Law_run_15 : decode b_Law_run 15 = .ok (.astore_n 3, 1) := by decide +kernel
theorem d_Law_run_16 : decode b_Law_run 16 = .ok (.iconst 2, 1) := by decide +kernel
theorem d_Law_run_17 : decode b_Law_run 17 = .ok (.ireturn, 1) := by decide +kernel
theorem d_Law_run_18 : decode b_Law_run 18 = .ok (.iconst 0, 1) := by decide +kernel
theorem d_Law_run_19 : decode b_Law_run 19 = .ok (.ireturn, 1) := by decide +kernel
abbrev b_Law_told : ByteArray := method_7_code
def y_Law_told : MethodName := ⟨"CheriCoreLaw", "told", "(LCheriCore;II[J)I"⟩
abbrev hh_Law_told : List (Nat × Nat × Nat × Nat) := [(0, 10, 13, 13), (0, 10, 17, 19)]
theorem k_Law_told : Csw y_Law_told b_Law_told 5 (some .int) hh_Law_told 4 := ⟨tb_4_230, tb_1_0, tb_4_231, by decide +kernel⟩
theorem d_Law_told_0 : decode b_Law_told 0 = .ok (.aload_n 3, 1) := by decide +kernel
theorem d_Law_told_1 : decode b_Law_told 1 = .ok (.iconst 0, 1) := by decide +kernel
theorem d_Law_told_2 : decode b_Law_told 2 = .ok (.aload_n 0, 1) := by decide +kernel
theorem d_Law_told_3 : decode b_Law_told 3 = .ok (.iload_n 1, 1) := by decide +kernel
theorem d_Law_told_4 : decode b_Law_told 4 = .ok (.iload_n 2, 1) := by decide +kernel
theorem d_Law_told_5 : decode b_Law_told 5 = .ok (.invokevirtual 31, 3) := by decide +kernel
theorem d_Law_told_8 : decode b_Law_told 8 = .ok (.i2l, 1) := by decide +kernel
theorem d_Law_told_9 : decode b_Law_told 9 = .ok (.lastore, 1) := by decide +kernel
theorem d_Law_told_10 : decode b_Law_told 10 = .ok (.goto 11, 3) := by decide +kernel
theorem d_Law_told_13 : decode b_Law_told 13 = .ok (.astore 4, 2) := by decide +kernel
theorem d_Law_told_15 : decode b_Law_told 15 = .ok (.iconst 1, 1) := by decide +kernel
theorem d_Law_told_16 : decode b_Law_told 16 = .ok (.ireturn, 1) := by decide +kernel
theorem d_Law_told_17 : decode b_Law_told 17 = .ok (.astore 4, 2) := by decide +kernel
theorem d_Law_told_19 : decode b_Law_told 19 = .ok (.iconst 2, 1) := by decide +kernel
theorem d_Law_told_20 : decode b_Law_told 20 = .ok (.ireturn, 1) := by decide +kernel
theorem d_Law_told_21 : decode b_Law_told 21 = .ok (.iconst 0, 1) := by decide +kernel
theorem d_Law_told_22 : decode b_Law_told 22 = .ok (.ireturn, 1) := by decide +kernel
abbrev b_Law_memory : ByteArray := method_8_code
def y_Law_memory : MethodName := ⟨"CheriCoreLaw", "memory", "(LCheriCore;I[J)I"⟩
abbrev hh_Law_memory : List (Nat × Nat × Nat × Nat) := [(0, 9, 12, 13)]
theorem k_Law_memory : Csw y_Law_memory b_Law_memory 4 (some .int) hh_Law_memory 3 := ⟨tb_5_2, tb_1_0, tb_5_3, by decide +kernel⟩
theorem d_Law_memory_0 : decode b_Law_memory 0 = .ok (.aload_n 2, 1) := by decide +kernel
theorem d_Law_memory_1 : decode b_Law_memory 1 = .ok (.iconst 0, 1) := by decide +kernel
theorem d_Law_memory_2 : decode b_Law_memory 2 = .ok (.aload_n 0, 1) := by decide +kernel
theorem d_Law_memory_3 : decode b_Law_memory 3 = .ok (.iload_n 1, 1) := by decide +kernel
theorem d_Law_memory_4 : decode b_Law_memory 4 = .ok (.invokevirtual 34, 3) := by decide +kernel
theorem d_Law_memory_7 : decode b_Law_memory 7 = .ok (.i2l, 1) := by decide +kernel
theorem d_Law_memory_8 : decode b_Law_memory 8 = .ok (.lastore, 1) := by decide +kernel
theorem d_Law_memory_9 : decode b_Law_memory 9 = .ok (.goto 6, 3) := by decide +kernel
theorem d_Law_memory_12 : decode b_Law_memory 12 = .ok (.astore_n 3, 1) := by decide +kernel
theorem d_Law_memory_13 : decode b_Law_memory 13 = .ok (.iconst 1, 1) := by decide +kernel
theorem d_Law_memory_14 : decode b_Law_memory 14 = .ok (.ireturn, 1) := by decide +kernel
theorem d_Law_memory_15 : decode b_Law_memory 15 = .ok (.iconst 0, 1) := by decide +kernel
theorem d_Law_memory_16 : decode b_Law_memory 16 = .ok (.ireturn, 1) := by decide +kernel
abbrev b_Law_tag : ByteArray := method_9_code
def y_Law_tag : MethodName := ⟨"CheriCoreLaw", "tag", "(LCheriCore;I[J)I"⟩
abbrev hh_Law_tag : List (Nat × Nat × Nat × Nat) := [(0, 16, 19, 13)]
theorem k_Law_tag : Csw y_Law_tag b_Law_tag 4 (some .int) hh_Law_tag 3 := ⟨tb_5_9, tb_1_0, tb_5_10, by decide +kernel⟩
theorem d_Law_tag_0 : decode b_Law_tag 0 = .ok (.aload_n 2, 1) := by decide +kernel
theorem d_Law_tag_1 : decode b_Law_tag 1 = .ok (.iconst 0, 1) := by decide +kernel
theorem d_Law_tag_2 : decode b_Law_tag 2 = .ok (.aload_n 0, 1) := by decide +kernel
theorem d_Law_tag_3 : decode b_Law_tag 3 = .ok (.iload_n 1, 1) := by decide +kernel
theorem d_Law_tag_4 : decode b_Law_tag 4 = .ok (.invokevirtual 37, 3) := by decide +kernel
theorem d_Law_tag_7 : decode b_Law_tag 7 = .ok (.ifCond .eq 7, 3) := by decide +kernel
theorem d_Law_tag_10 : decode b_Law_tag 10 = .ok (.lconst 1, 1) := by decide +kernel
theorem d_Law_tag_11 : decode b_Law_tag 11 = .ok (.goto 4, 3) := by decide +kernel
theorem d_Law_tag_14 : decode b_Law_tag 14 = .ok (.lconst 0, 1) := by decide +kernel
theorem d_Law_tag_15 : decode b_Law_tag 15 = .ok (.lastore, 1) := by decide +kernel
theorem d_Law_tag_16 : decode b_Law_tag 16 = .ok (.goto 6, 3) := by decide +kernel
theorem d_Law_tag_19 : decode b_Law_tag 19 = .ok (.astore_n 3, 1) := by decide +kernel
theorem d_Law_tag_20 : decode b_Law_tag 20 = .ok (.iconst 1, 1) := by decide +kernel
theorem d_Law_tag_21 : decode b_Law_tag 21 = .ok (.ireturn, 1) := by decide +kernel
theorem d_Law_tag_22 : decode b_Law_tag 22 = .ok (.iconst 0, 1) := by decide +kernel
theorem d_Law_tag_23 : decode b_Law_tag 23 = .ok (.ireturn, 1) := by decide +kernel
abbrev b_Law_count : ByteArray := method_10_code
def y_Law_count : MethodName := ⟨"CheriCoreLaw", "count", "(LCheriCore;I[J)I"⟩
abbrev hh_Law_count : List (Nat × Nat × Nat × Nat) := [(0, 9, 12, 19)]
theorem k_Law_count : Csw y_Law_count b_Law_count 4 (some .int) hh_Law_count 3 := ⟨tb_5_16, tb_1_0, tb_5_17, by decide +kernel⟩
theorem d_Law_count_0 : decode b_Law_count 0 = .ok (.aload_n 2, 1) := by decide +kernel
theorem d_Law_count_1 : decode b_Law_count 1 = .ok (.iconst 0, 1) := by decide +kernel
theorem d_Law_count_2 : decode b_Law_count 2 = .ok (.aload_n 0, 1) := by decide +kernel
theorem d_Law_count_3 : decode b_Law_count 3 = .ok (.iload_n 1, 1) := by decide +kernel
theorem d_Law_count_4 : decode b_Law_count 4 = .ok (.invokevirtual 41, 3) := by decide +kernel
theorem d_Law_count_7 : decode b_Law_count 7 = .ok (.i2l, 1) := by decide +kernel
theorem d_Law_count_8 : decode b_Law_count 8 = .ok (.lastore, 1) := by decide +kernel
theorem d_Law_count_9 : decode b_Law_count 9 = .ok (.goto 6, 3) := by decide +kernel
theorem d_Law_count_12 : decode b_Law_count 12 = .ok (.astore_n 3, 1) := by decide +kernel
theorem d_Law_count_13 : decode b_Law_count 13 = .ok (.iconst 1, 1) := by decide +kernel
theorem d_Law_count_14 : decode b_Law_count 14 = .ok (.ireturn, 1) := by decide +kernel
theorem d_Law_count_15 : decode b_Law_count 15 = .ok (.iconst 0, 1) := by decide +kernel
theorem d_Law_count_16 : decode b_Law_count 16 = .ok (.ireturn, 1) := by decide +kernel
abbrev b_Law_pack : ByteArray := method_11_code
def y_Law_pack : MethodName := ⟨"CheriCoreLaw", "pack", "(LCheriCore;IJ[J)I"⟩
abbrev hh_Law_pack : List (Nat × Nat × Nat × Nat) := [(0, 11, 14, 19)]
theorem k_Law_pack : Csw y_Law_pack b_Law_pack 6 (some .int) hh_Law_pack 4 := ⟨tb_5_28, tb_1_0, tb_5_29, by decide +kernel⟩
theorem d_Law_pack_0 : decode b_Law_pack 0 = .ok (.aload 4, 2) := by decide +kernel
theorem d_Law_pack_2 : decode b_Law_pack 2 = .ok (.iconst 0, 1) := by decide +kernel
theorem d_Law_pack_3 : decode b_Law_pack 3 = .ok (.aload_n 0, 1) := by decide +kernel
theorem d_Law_pack_4 : decode b_Law_pack 4 = .ok (.iload_n 1, 1) := by decide +kernel
theorem d_Law_pack_5 : decode b_Law_pack 5 = .ok (.lload_n 2, 1) := by decide +kernel
theorem d_Law_pack_6 : decode b_Law_pack 6 = .ok (.invokevirtual 44, 3) := by decide +kernel
theorem d_Law_pack_9 : decode b_Law_pack 9 = .ok (.i2l, 1) := by decide +kernel
theorem d_Law_pack_10 : decode b_Law_pack 10 = .ok (.lastore, 1) := by decide +kernel
theorem d_Law_pack_11 : decode b_Law_pack 11 = .ok (.goto 7, 3) := by decide +kernel
theorem d_Law_pack_14 : decode b_Law_pack 14 = .ok (.astore 5, 2) := by decide +kernel
theorem d_Law_pack_16 : decode b_Law_pack 16 = .ok (.iconst 1, 1) := by decide +kernel
theorem d_Law_pack_17 : decode b_Law_pack 17 = .ok (.ireturn, 1) := by decide +kernel
theorem d_Law_pack_18 : decode b_Law_pack 18 = .ok (.iconst 0, 1) := by decide +kernel
theorem d_Law_pack_19 : decode b_Law_pack 19 = .ok (.ireturn, 1) := by decide +kernel
set_option maxHeartbeats 4000000 in
set_option maxRecDepth 100000 in
theorem g_Law_word (l : Launch) (D : va_G) (ti : Nat → ClassId) (co : Nat) (ou : Nat) (f : Nat → Int64) (wc : va_W) (a0 a1 : Int32) (P : va_W → Prop) (v : Int32) (hc : ∃ fs, wc[69]? = some (co, .inr (10, fs))) (hM : CK l y_Cor_word (wl y_Cor_word b_Cor_word 4 (some .int)) (rmL 3) D ti [.ref co, .int a0, .int a1] wc P (some (.int v))) : Cg l y_Law_word (wlW y_Law_word b_Law_word 5 (some .int) hh_Law_word) (rmL 9) D clz (ty4 ti) [.ref co, .int a0, .int a1, .ref ou] ((ou, lo ti f) :: wc) (fun _ : Pz wc P => some (.int 0)) (fun z => (ou, lo ti (vp_updL f 0 v.toInt64)) :: z.1) (fun _ => True) := by
  obtain ⟨fs, hc⟩ := hc
  refine Cg.ofW (by decide) (Nat.le_of_ble_eq_true rfl) ?_
  intro p9 e9 s9 m9 b9 me9 c9 ls S hr hlk hl hw
  obtain ⟨hx, hb, hml, hown, hts⟩ := id S
  have hl : lv_has ls 5 [(0, .ref co), (1, .int a0), (2, .int a1), (3, .ref ou)] := hl
  refine lv_aload_n hx hb d_Law_word_0 rfl (lv_at hl 3 rfl) ?_
  refine lv_iconst (v := 0) hx hb d_Law_word_1 (by decide) ?_
  refine lv_aload_n hx hb d_Law_word_2 rfl (lv_at hl 0 rfl) ?_
  refine lv_iload_n hx hb d_Law_word_3 rfl (lv_at hl 1 rfl) ?_
  refine lv_iload_n hx hb d_Law_word_4 rfl (lv_at hl 2 rfl) ?_
  refine q_cg (q_runV (As := [.int a0, .int a1]) (rest := [.int (0 : Int32), .ref ou]) S (Cg.back hM (fun z => z.len) [(ou, lo ti f)]) (cw_v hts tb_2_190 k_Cor_word rfl rfl ⟨by decide, by decide⟩) hw 70 (cons_at hc) rfl rfl hl.1 rfl (Nat.le_of_ble_eq_true rfl) d_Law_word_5 ⟨Nat.zero_le _, Nat.zero_le _⟩) hw (fun z hD => z.cons hD) (fun z9 H locs _ hw => ?_)
  refine W.eq (g2 := F0 m9 8 ls [.int v, .int (0 : Int32), .ref ou]) rfl ?_
  have hw : Lv _ _ _ _ _ ((ou, lo ti f) :: z9.1) _ _ _ := hw
  refine lv_i2l (v := (v.toInt64)) hx hb d_Law_word_8 rfl ?_
  refine q_lastN (k := 0) S hw 0 2 rfl rfl (by first | assumption | omega) (by decide) d_Law_word_9 (fun H locs hw => ?_)
  have hw : Lv _ _ _ _ _ ((ou, lo ti (vp_updL f 0 (v.toInt64))) :: z9.1) _ _ _ := hw
  refine lv_goto hx hb d_Law_word_10 rfl ?_
  refine lv_iconst (v := 0) hx hb d_Law_word_17 (by decide) ?_
  exact hw.riz S hr hlk rfl d_Law_word_18 z9 rfl trivial (rfl)
set_option maxHeartbeats 4000000 in
set_option maxRecDepth 100000 in
theorem x_Law_word (l : Launch) (D : va_G) (ti : Nat → ClassId) (co : Nat) (ou : Nat) (f : Nat → Int64) (wc : va_W) (a0 a1 : Int32) (hc : ∃ fs, wc[69]? = some (co, .inr (10, fs))) (hM : CT1 l y_Cor_word (wl y_Cor_word b_Cor_word 4 (some .int)) D ti [.ref co, .int a0, .int a1] wc 58 X1 56 "no such word") : Cx l y_Law_word (wlW y_Law_word b_Law_word 5 (some .int) hh_Law_word) (rmC 7 1 6) D clz (ty4 ti) [.ref co, .int a0, .int a1, .ref ou] ((ou, lo ti f) :: wc) 1 := by
  obtain ⟨fs, hc⟩ := hc
  refine Cx.of (by decide) (Nat.le_of_ble_eq_true rfl) ?_
  intro p9 e9 s9 m9 b9 me9 c9 ls S htb hr hlk hl hN hZ hw
  obtain ⟨hx, hb, hml, hown, hts⟩ := id S
  have hl : lv_has ls 5 [(0, .ref co), (1, .int a0), (2, .int a1), (3, .ref ou)] := hl
  refine lv_aload_n hx hb d_Law_word_0 rfl (lv_at hl 3 rfl) ?_
  refine lv_iconst (v := 0) hx hb d_Law_word_1 (by decide) ?_
  refine lv_aload_n hx hb d_Law_word_2 rfl (lv_at hl 0 rfl) ?_
  refine lv_iload_n hx hb d_Law_word_3 rfl (lv_at hl 1 rfl) ?_
  refine lv_iload_n hx hb d_Law_word_4 rfl (lv_at hl 2 rfl) ?_
  obtain ⟨q0, L0, t0, a0_, b0_, c0_, d0_, htb0⟩ := tab_cons htb
  refine q_catch (X := X1) (rest := [.int (0 : Int32), .ref ou]) S (hM _) (cw_vT hts tb_2_190 k_Cor_word rfl rfl ⟨by decide, by decide⟩) hw hw.tl hN (TW.call own_1) (fun U hU hW => hZ.word.moved own_1 hW (fun q _ => by rw [hU])) 70 (cons_at hc) rfl rfl hl.1 rfl (Nat.le_of_ble_eq_true rfl) d_Law_word_5 ⟨Nat.le_of_ble_eq_true rfl, Nat.le_of_ble_eq_true rfl⟩ [] q0 L0 (by rw [t0]; rfl) (fun z hz => absurd hz List.not_mem_nil) (tab_cov a0_ b0_ rfl) (by rw [d0_]; decide) c0_ (by rw [d0_]; exact tb_2_189) (hZ.word.cast _) (fun a9 H hold hw => ?_)
  refine lv_astore (lv' := [(4, .ref a9), (0, .ref co), (1, .int a0), (2, .int a1), (3, .ref ou)]) hx hb d_Law_word_13 hl (by decide) rfl (fun ls hl => ?_)
  refine lv_iconst (v := 1) hx hb d_Law_word_15 (by decide) ?_
  exact qx_ret S hr hlk hw.2.2.2.1 hold d_Law_word_16
set_option maxHeartbeats 4000000 in
set_option maxRecDepth 100000 in
theorem g_Law_root (l : Launch) (D : va_G) (ti : Nat → ClassId) (co : Nat) (ou : Nat) (f : Nat → Int64) (wc : va_W) (a0 a1 a2 a3 : Int32) (P : va_W → Prop) (v : Int32) (hc : ∃ fs, wc[69]? = some (co, .inr (10, fs))) (hM : CK l y_Cor_root (wl y_Cor_root b_Cor_root 8 (some .int)) (rmL 3) D ti [.ref co, .int a0, .int a1, .int a2, .int a3] wc P (some (.int v))) : Cg l y_Law_root (wlW y_Law_root b_Law_root 7 (some .int) hh_Law_root) (rmL 9) D clz (ty4 ti) [.ref co, .int a0, .int a1, .int a2, .int a3, .ref ou] ((ou, lo ti f) :: wc) (fun _ : Pz wc P => some (.int 0)) (fun z => (ou, lo ti (vp_updL f 0 v.toInt64)) :: z.1) (fun _ => True) := by
  obtain ⟨fs, hc⟩ := hc
  refine Cg.ofW (by decide) (Nat.le_of_ble_eq_true rfl) ?_
  intro p9 e9 s9 m9 b9 me9 c9 ls S hr hlk hl hw
  obtain ⟨hx, hb, hml, hown, hts⟩ := id S
  have hl : lv_has ls 7 [(0, .ref co), (1, .int a0), (2, .int a1), (3, .int a2), (4, .int a3), (5, .ref ou)] := hl
  refine lv_aload hx hb d_Law_root_0 (lv_at hl 5 rfl) ?_
  refine lv_iconst (v := 0) hx hb d_Law_root_2 (by decide) ?_
  refine lv_aload_n hx hb d_Law_root_3 rfl (lv_at hl 0 rfl) ?_
  refine lv_iload_n hx hb d_Law_root_4 rfl (lv_at hl 1 rfl) ?_
  refine lv_iload_n hx hb d_Law_root_5 rfl (lv_at hl 2 rfl) ?_
  refine lv_iload_n hx hb d_Law_root_6 rfl (lv_at hl 3 rfl) ?_
  refine lv_iload hx hb d_Law_root_7 (lv_at hl 4 rfl) ?_
  refine q_cg (q_runV (As := [.int a0, .int a1, .int a2, .int a3]) (rest := [.int (0 : Int32), .ref ou]) S (Cg.back hM (fun z => z.len) [(ou, lo ti f)]) (cw_v hts tb_3_69 k_Cor_root rfl rfl ⟨by decide, by decide⟩) hw 70 (cons_at hc) rfl rfl hl.1 rfl (Nat.le_of_ble_eq_true rfl) d_Law_root_9 ⟨Nat.zero_le _, Nat.zero_le _⟩) hw (fun z hD => z.cons hD) (fun z9 H locs _ hw => ?_)
  refine W.eq (g2 := F0 m9 12 ls [.int v, .int (0 : Int32), .ref ou]) rfl ?_
  have hw : Lv _ _ _ _ _ ((ou, lo ti f) :: z9.1) _ _ _ := hw
  refine lv_i2l (v := (v.toInt64)) hx hb d_Law_root_12 rfl ?_
  refine q_lastN (k := 0) S hw 0 2 rfl rfl (by first | assumption | omega) (by decide) d_Law_root_13 (fun H locs hw => ?_)
  have hw : Lv _ _ _ _ _ ((ou, lo ti (vp_updL f 0 (v.toInt64))) :: z9.1) _ _ _ := hw
  refine lv_goto hx hb d_Law_root_14 rfl ?_
  refine lv_iconst (v := 0) hx hb d_Law_root_29 (by decide) ?_
  exact hw.riz S hr hlk rfl d_Law_root_30 z9 rfl trivial (rfl)
set_option maxHeartbeats 4000000 in
set_option maxRecDepth 100000 in
theorem x_Law_rootX (l : Launch) (D : va_G) (ti : Nat → ClassId) (co : Nat) (ou : Nat) (f : Nat → Int64) (wc : va_W) (a0 a1 a2 a3 : Int32) (hc : ∃ fs, wc[69]? = some (co, .inr (10, fs))) (hM : CT1 l y_Cor_root (wl y_Cor_root b_Cor_root 8 (some .int)) D ti [.ref co, .int a0, .int a1, .int a2, .int a3] wc 58 X1 85 "no such register") : Cx l y_Law_root (wlW y_Law_root b_Law_root 7 (some .int) hh_Law_root) (rmC 7 1 6) D clz (ty4 ti) [.ref co, .int a0, .int a1, .int a2, .int a3, .ref ou] ((ou, lo ti f) :: wc) 1 := by
  obtain ⟨fs, hc⟩ := hc
  refine Cx.of (by decide) (Nat.le_of_ble_eq_true rfl) ?_
  intro p9 e9 s9 m9 b9 me9 c9 ls S htb hr hlk hl hN hZ hw
  obtain ⟨hx, hb, hml, hown, hts⟩ := id S
  have hl : lv_has ls 7 [(0, .ref co), (1, .int a0), (2, .int a1), (3, .int a2), (4, .int a3), (5, .ref ou)] := hl
  refine lv_aload hx hb d_Law_root_0 (lv_at hl 5 rfl) ?_
  refine lv_iconst (v := 0) hx hb d_Law_root_2 (by decide) ?_
  refine lv_aload_n hx hb d_Law_root_3 rfl (lv_at hl 0 rfl) ?_
  refine lv_iload_n hx hb d_Law_root_4 rfl (lv_at hl 1 rfl) ?_
  refine lv_iload_n hx hb d_Law_root_5 rfl (lv_at hl 2 rfl) ?_
  refine lv_iload_n hx hb d_Law_root_6 rfl (lv_at hl 3 rfl) ?_
  refine lv_iload hx hb d_Law_root_7 (lv_at hl 4 rfl) ?_
  obtain ⟨q0, L0, t0, a0_, b0_, c0_, d0_, htb0⟩ := tab_cons htb
  refine q_catch (X := X1) (rest := [.int (0 : Int32), .ref ou]) S (hM _) (cw_vT hts tb_3_69 k_Cor_root rfl rfl ⟨by decide, by decide⟩) hw hw.tl hN (TW.call own_1) (fun U hU hW => hZ.reg.moved own_1 hW (fun q _ => by rw [hU])) 70 (cons_at hc) rfl rfl hl.1 rfl (Nat.le_of_ble_eq_true rfl) d_Law_root_9 ⟨Nat.le_of_ble_eq_true rfl, Nat.le_of_ble_eq_true rfl⟩ [] q0 L0 (by rw [t0]; rfl) (fun z hz => absurd hz List.not_mem_nil) (tab_cov a0_ b0_ rfl) (by rw [d0_]; decide) c0_ (by rw [d0_]; exact tb_2_189) (hZ.reg.cast _) (fun a9 H hold hw => ?_)
  refine lv_astore (lv' := [(6, .ref a9), (0, .ref co), (1, .int a0), (2, .int a1), (3, .int a2), (4, .int a3), (5, .ref ou)]) hx hb d_Law_root_17 hl (by decide) rfl (fun ls hl => ?_)
  refine lv_iconst (v := 1) hx hb d_Law_root_19 (by decide) ?_
  exact qx_ret S hr hlk hw.2.2.2.1 hold d_Law_root_20
set_option maxHeartbeats 4000000 in
set_option maxRecDepth 100000 in
theorem x_Law_rootY (l : Launch) (D : va_G) (ti : Nat → ClassId) (co : Nat) (ou : Nat) (f : Nat → Int64) (wc : va_W) (a0 a1 a2 a3 : Int32) (hc : ∃ fs, wc[69]? = some (co, .inr (10, fs))) (hM : CT1 l y_Cor_root (wl y_Cor_root b_Cor_root 8 (some .int)) D ti [.ref co, .int a0, .int a1, .int a2, .int a3] wc 95 X2 93 "no such root") : Cx l y_Law_root (wlW y_Law_root b_Law_root 7 (some .int) hh_Law_root) (rmC 7 1 6) D clz (ty4 ti) [.ref co, .int a0, .int a1, .int a2, .int a3, .ref ou] ((ou, lo ti f) :: wc) 2 := by
  obtain ⟨fs, hc⟩ := hc
  refine Cx.of (by decide) (Nat.le_of_ble_eq_true rfl) ?_
  intro p9 e9 s9 m9 b9 me9 c9 ls S htb hr hlk hl hN hZ hw
  obtain ⟨hx, hb, hml, hown, hts⟩ := id S
  have hl : lv_has ls 7 [(0, .ref co), (1, .int a0), (2, .int a1), (3, .int a2), (4, .int a3), (5, .ref ou)] := hl
  refine lv_aload hx hb d_Law_root_0 (lv_at hl 5 rfl) ?_
  refine lv_iconst (v := 0) hx hb d_Law_root_2 (by decide) ?_
  refine lv_aload_n hx hb d_Law_root_3 rfl (lv_at hl 0 rfl) ?_
  refine lv_iload_n hx hb d_Law_root_4 rfl (lv_at hl 1 rfl) ?_
  refine lv_iload_n hx hb d_Law_root_5 rfl (lv_at hl 2 rfl) ?_
  refine lv_iload_n hx hb d_Law_root_6 rfl (lv_at hl 3 rfl) ?_
  refine lv_iload hx hb d_Law_root_7 (lv_at hl 4 rfl) ?_
  obtain ⟨q0, L0, t0, a0_, b0_, c0_, d0_, htb0⟩ := tab_cons htb
  obtain ⟨q1, L1, t1, a1_, b1_, c1_, d1_, htb1⟩ := tab_cons htb0
  refine q_catch (X := X2) (rest := [.int (0 : Int32), .ref ou]) S (hM _) (cw_vT hts tb_3_69 k_Cor_root rfl rfl ⟨by decide, by decide⟩) hw hw.tl hN (TW.call own_2) (fun U hU hW => hZ.root.moved own_2 hW (fun q _ => by rw [hU])) 70 (cons_at hc) rfl rfl hl.1 rfl (Nat.le_of_ble_eq_true rfl) d_Law_root_9 ⟨Nat.le_of_ble_eq_true rfl, Nat.le_of_ble_eq_true rfl⟩ [q0] q1 L1 (by rw [t0, t1]; rfl) (List.forall_mem_cons.mpr ⟨Or.inr ⟨"java/lang/IndexOutOfBoundsException", by rw [d0_]; decide, by rw [d0_]; exact tb_2_189, hZ.n21 _⟩, (fun z hz => absurd hz List.not_mem_nil)⟩) (tab_cov a1_ b1_ rfl) (by rw [d1_]; decide) c1_ (by rw [d1_]; exact tb_3_67) (hZ.root.cast _) (fun a9 H hold hw => ?_)
  refine lv_astore (lv' := [(6, .ref a9), (0, .ref co), (1, .int a0), (2, .int a1), (3, .int a2), (4, .int a3), (5, .ref ou)]) hx hb d_Law_root_21 hl (by decide) rfl (fun ls hl => ?_)
  refine lv_iconst (v := 2) hx hb d_Law_root_23 (by decide) ?_
  exact qx_ret S hr hlk hw.2.2.2.1 hold d_Law_root_24
set_option maxHeartbeats 4000000 in
set_option maxRecDepth 100000 in
theorem x_Law_rootZ (l : Launch) (D : va_G) (ti : Nat → ClassId) (co : Nat) (ou : Nat) (f : Nat → Int64) (wc : va_W) (a0 a1 a2 a3 : Int32) (hc : ∃ fs, wc[69]? = some (co, .inr (10, fs))) (hM : CT1 l y_Cor_root (wl y_Cor_root b_Cor_root 8 (some .int)) D ti [.ref co, .int a0, .int a1, .int a2, .int a3] wc 104 X3 102 "there are eight roots") : Cx l y_Law_root (wlW y_Law_root b_Law_root 7 (some .int) hh_Law_root) (rmC 7 1 6) D clz (ty4 ti) [.ref co, .int a0, .int a1, .int a2, .int a3, .ref ou] ((ou, lo ti f) :: wc) 3 := by
  obtain ⟨fs, hc⟩ := hc
  refine Cx.of (by decide) (Nat.le_of_ble_eq_true rfl) ?_
  intro p9 e9 s9 m9 b9 me9 c9 ls S htb hr hlk hl hN hZ hw
  obtain ⟨hx, hb, hml, hown, hts⟩ := id S
  have hl : lv_has ls 7 [(0, .ref co), (1, .int a0), (2, .int a1), (3, .int a2), (4, .int a3), (5, .ref ou)] := hl
  refine lv_aload hx hb d_Law_root_0 (lv_at hl 5 rfl) ?_
  refine lv_iconst (v := 0) hx hb d_Law_root_2 (by decide) ?_
  refine lv_aload_n hx hb d_Law_root_3 rfl (lv_at hl 0 rfl) ?_
  refine lv_iload_n hx hb d_Law_root_4 rfl (lv_at hl 1 rfl) ?_
  refine lv_iload_n hx hb d_Law_root_5 rfl (lv_at hl 2 rfl) ?_
  refine lv_iload_n hx hb d_Law_root_6 rfl (lv_at hl 3 rfl) ?_
  refine lv_iload hx hb d_Law_root_7 (lv_at hl 4 rfl) ?_
  obtain ⟨q0, L0, t0, a0_, b0_, c0_, d0_, htb0⟩ := tab_cons htb
  obtain ⟨q1, L1, t1, a1_, b1_, c1_, d1_, htb1⟩ := tab_cons htb0
  obtain ⟨q2, L2, t2, a2_, b2_, c2_, d2_, htb2⟩ := tab_cons htb1
  refine q_catch (X := X3) (rest := [.int (0 : Int32), .ref ou]) S (hM _) (cw_vT hts tb_3_69 k_Cor_root rfl rfl ⟨by decide, by decide⟩) hw hw.tl hN (TW.call own_3) (fun U hU hW => hZ.eight.moved own_3 hW (fun q _ => by rw [hU])) 70 (cons_at hc) rfl rfl hl.1 rfl (Nat.le_of_ble_eq_true rfl) d_Law_root_9 ⟨Nat.le_of_ble_eq_true rfl, Nat.le_of_ble_eq_true rfl⟩ [q0, q1] q2 L2 (by rw [t0, t1, t2]; rfl) (List.forall_mem_cons.mpr ⟨Or.inr ⟨"java/lang/IndexOutOfBoundsException", by rw [d0_]; decide, by rw [d0_]; exact tb_2_189, hZ.n31 _⟩, (List.forall_mem_cons.mpr ⟨Or.inr ⟨"java/lang/IllegalArgumentException", by rw [d1_]; decide, by rw [d1_]; exact tb_3_67, hZ.n32 _⟩, (fun z hz => absurd hz List.not_mem_nil)⟩)⟩) (tab_cov a2_ b2_ rfl) (by rw [d2_]; decide) c2_ (by rw [d2_]; exact tb_3_68) (hZ.eight.cast _) (fun a9 H hold hw => ?_)
  refine lv_astore (lv' := [(6, .ref a9), (0, .ref co), (1, .int a0), (2, .int a1), (3, .int a2), (4, .int a3), (5, .ref ou)]) hx hb d_Law_root_25 hl (by decide) rfl (fun ls hl => ?_)
  refine lv_iconst (v := 3) hx hb d_Law_root_27 (by decide) ?_
  exact qx_ret S hr hlk hw.2.2.2.1 hold d_Law_root_28
set_option maxHeartbeats 4000000 in
set_option maxRecDepth 100000 in
theorem g_Law_put (l : Launch) (D : va_G) (ti : Nat → ClassId) (co : Nat) (wc : va_W) (a0 a1 a2 : Int32) (P : va_W → Prop) (hc : ∃ fs, wc[69]? = some (co, .inr (10, fs))) (hM : CK l y_Cor_put (wl y_Cor_put b_Cor_put 4 none) (rmL 3) D ti [.ref co, .int a0, .int a1, .int a2] wc P (none)) : Cg l y_Law_put (wlW y_Law_put b_Law_put 5 (some .int) hh_Law_put) (rmL 9) D clz (ty4 ti) [.ref co, .int a0, .int a1, .int a2] wc (fun _ : Pz wc P => some (.int 0)) (fun z => z.1) (fun _ => True) := by
  obtain ⟨fs, hc⟩ := hc
  refine Cg.ofW (by decide) (Nat.le_of_ble_eq_true rfl) ?_
  intro p9 e9 s9 m9 b9 me9 c9 ls S hr hlk hl hw
  obtain ⟨hx, hb, hml, hown, hts⟩ := id S
  have hl : lv_has ls 5 [(0, .ref co), (1, .int a0), (2, .int a1), (3, .int a2)] := hl
  refine lv_aload_n hx hb d_Law_put_0 rfl (lv_at hl 0 rfl) ?_
  refine lv_iload_n hx hb d_Law_put_1 rfl (lv_at hl 1 rfl) ?_
  refine lv_iload_n hx hb d_Law_put_2 rfl (lv_at hl 2 rfl) ?_
  refine lv_iload_n hx hb d_Law_put_3 rfl (lv_at hl 3 rfl) ?_
  refine q_cg (q_runV (As := [.int a0, .int a1, .int a2]) (rest := []) S hM (cw_v hts tb_3_137 k_Cor_put rfl rfl ⟨by decide, by decide⟩) hw 69 hc rfl rfl hl.1 rfl (Nat.le_of_ble_eq_true rfl) d_Law_put_4 ⟨Nat.zero_le _, Nat.zero_le _⟩) hw (fun z hD => qD_perm z.2.2 hD) (fun z9 H locs _ hw => ?_)
  refine W.eq (g2 := F0 m9 7 ls []) rfl ?_
  have hw : Lv _ _ _ _ _ z9.1 _ _ _ := hw
  refine lv_goto hx hb d_Law_put_7 rfl ?_
  refine lv_iconst (v := 0) hx hb d_Law_put_14 (by decide) ?_
  exact hw.riz S hr hlk rfl d_Law_put_15 z9 rfl trivial (rfl)
set_option maxHeartbeats 4000000 in
set_option maxRecDepth 100000 in
theorem x_Law_put (l : Launch) (D : va_G) (ti : Nat → ClassId) (co : Nat) (wc : va_W) (a0 a1 a2 : Int32) (hc : ∃ fs, wc[69]? = some (co, .inr (10, fs))) (hM : CT1 l y_Cor_put (wl y_Cor_put b_Cor_put 4 none) D ti [.ref co, .int a0, .int a1, .int a2] wc 58 X1 85 "no such register") : Cx l y_Law_put (wlW y_Law_put b_Law_put 5 (some .int) hh_Law_put) (rmC 7 1 6) D clz (ty4 ti) [.ref co, .int a0, .int a1, .int a2] wc 1 := by
  obtain ⟨fs, hc⟩ := hc
  refine Cx.of (by decide) (Nat.le_of_ble_eq_true rfl) ?_
  intro p9 e9 s9 m9 b9 me9 c9 ls S htb hr hlk hl hN hZ hw
  obtain ⟨hx, hb, hml, hown, hts⟩ := id S
  have hl : lv_has ls 5 [(0, .ref co), (1, .int a0), (2, .int a1), (3, .int a2)] := hl
  refine lv_aload_n hx hb d_Law_put_0 rfl (lv_at hl 0 rfl) ?_
  refine lv_iload_n hx hb d_Law_put_1 rfl (lv_at hl 1 rfl) ?_
  refine lv_iload_n hx hb d_Law_put_2 rfl (lv_at hl 2 rfl) ?_
  refine lv_iload_n hx hb d_Law_put_3 rfl (lv_at hl 3 rfl) ?_
  obtain ⟨q0, L0, t0, a0_, b0_, c0_, d0_, htb0⟩ := tab_cons htb
  refine q_catch (X := X1) (rest := []) S (hM _) (cw_vT hts tb_3_137 k_Cor_put rfl rfl ⟨by decide, by decide⟩) hw hw hN (TW.call own_1) (fun U hU hW => hZ.reg.moved own_1 hW (fun q _ => by rw [hU])) 69 hc rfl rfl hl.1 rfl (Nat.le_of_ble_eq_true rfl) d_Law_put_4 ⟨Nat.le_of_ble_eq_true rfl, Nat.le_of_ble_eq_true rfl⟩ [] q0 L0 (by rw [t0]; rfl) (fun z hz => absurd hz List.not_mem_nil) (tab_cov a0_ b0_ rfl) (by rw [d0_]; decide) c0_ (by rw [d0_]; exact tb_2_189) (hZ.reg.cast _) (fun a9 H hold hw => ?_)
  refine lv_astore (lv' := [(4, .ref a9), (0, .ref co), (1, .int a0), (2, .int a1), (3, .int a2)]) hx hb d_Law_put_10 hl (by decide) rfl (fun ls hl => ?_)
  refine lv_iconst (v := 1) hx hb d_Law_put_12 (by decide) ?_
  exact qx_ret S hr hlk hw.2.2.2.1 hold d_Law_put_13
set_option maxHeartbeats 4000000 in
set_option maxRecDepth 100000 in
theorem g_Law_run (l : Launch) (D : va_G) (ti : Nat → ClassId) (co : Nat) (ou : Nat) (f : Nat → Int64) (wc : va_W) (a0 : Int32) (P : va_W → Prop) (v : Int32) (hc : ∃ fs, wc[69]? = some (co, .inr (10, fs))) (hM : CK l y_Cor_run (wl y_Cor_run b_Cor_run 3 (some .int)) (rmL 8) D ti [.ref co, .int a0] wc P (some (.int v))) : Cg l y_Law_run (wlW y_Law_run b_Law_run 4 (some .int) hh_Law_run) (rmL 9) D clz (ty4 ti) [.ref co, .int a0, .ref ou] ((ou, lo ti f) :: wc) (fun _ : Pz wc P => some (.int 0)) (fun z => (ou, lo ti (vp_updL f 0 v.toInt64)) :: z.1) (fun _ => True) := by
  obtain ⟨fs, hc⟩ := hc
  refine Cg.ofW (by decide) (Nat.le_of_ble_eq_true rfl) ?_
  intro p9 e9 s9 m9 b9 me9 c9 ls S hr hlk hl hw
  obtain ⟨hx, hb, hml, hown, hts⟩ := id S
  have hl : lv_has ls 4 [(0, .ref co), (1, .int a0), (2, .ref ou)] := hl
  refine lv_aload_n hx hb d_Law_run_0 rfl (lv_at hl 2 rfl) ?_
  refine lv_iconst (v := 0) hx hb d_Law_run_1 (by decide) ?_
  refine lv_aload_n hx hb d_Law_run_2 rfl (lv_at hl 0 rfl) ?_
  refine lv_iload_n hx hb d_Law_run_3 rfl (lv_at hl 1 rfl) ?_
  refine q_cg (q_runV (As := [.int a0]) (rest := [.int (0 : Int32), .ref ou]) S (Cg.back hM (fun z => z.len) [(ou, lo ti f)]) (cw_v hts tb_3_144 k_Cor_run rfl rfl ⟨by decide, by decide⟩) hw 70 (cons_at hc) rfl rfl hl.1 rfl (Nat.le_of_ble_eq_true rfl) d_Law_run_4 ⟨Nat.zero_le _, Nat.zero_le _⟩) hw (fun z hD => z.cons hD) (fun z9 H locs _ hw => ?_)
  refine W.eq (g2 := F0 m9 7 ls [.int v, .int (0 : Int32), .ref ou]) rfl ?_
  have hw : Lv _ _ _ _ _ ((ou, lo ti f) :: z9.1) _ _ _ := hw
  refine lv_i2l (v := (v.toInt64)) hx hb d_Law_run_7 rfl ?_
  refine q_lastN (k := 0) S hw 0 2 rfl rfl (by first | assumption | omega) (by decide) d_Law_run_8 (fun H locs hw => ?_)
  have hw : Lv _ _ _ _ _ ((ou, lo ti (vp_updL f 0 (v.toInt64))) :: z9.1) _ _ _ := hw
  refine lv_goto hx hb d_Law_run_9 rfl ?_
  refine lv_iconst (v := 0) hx hb d_Law_run_18 (by decide) ?_
  exact hw.riz S hr hlk rfl d_Law_run_19 z9 rfl trivial (rfl)
set_option maxHeartbeats 4000000 in
set_option maxRecDepth 100000 in
theorem x_Law_runX (l : Launch) (D : va_G) (ti : Nat → ClassId) (co : Nat) (ou : Nat) (f : Nat → Int64) (wc : va_W) (a0 : Int32) (hc : ∃ fs, wc[69]? = some (co, .inr (10, fs))) (hM : CT1 l y_Cor_run (wl y_Cor_run b_Cor_run 3 (some .int)) D ti [.ref co, .int a0] wc 95 X2 131 "no such number of steps") : Cx l y_Law_run (wlW y_Law_run b_Law_run 4 (some .int) hh_Law_run) (rmC 7 1 6) D clz (ty4 ti) [.ref co, .int a0, .ref ou] ((ou, lo ti f) :: wc) 1 := by
  obtain ⟨fs, hc⟩ := hc
  refine Cx.of (by decide) (Nat.le_of_ble_eq_true rfl) ?_
  intro p9 e9 s9 m9 b9 me9 c9 ls S htb hr hlk hl hN hZ hw
  obtain ⟨hx, hb, hml, hown, hts⟩ := id S
  have hl : lv_has ls 4 [(0, .ref co), (1, .int a0), (2, .ref ou)] := hl
  refine lv_aload_n hx hb d_Law_run_0 rfl (lv_at hl 2 rfl) ?_
  refine lv_iconst (v := 0) hx hb d_Law_run_1 (by decide) ?_
  refine lv_aload_n hx hb d_Law_run_2 rfl (lv_at hl 0 rfl) ?_
  refine lv_iload_n hx hb d_Law_run_3 rfl (lv_at hl 1 rfl) ?_
  obtain ⟨q0, L0, t0, a0_, b0_, c0_, d0_, htb0⟩ := tab_cons htb
  refine q_catch (X := X2) (rest := [.int (0 : Int32), .ref ou]) S (hM _) (cw_vT hts tb_3_144 k_Cor_run rfl rfl ⟨by decide, by decide⟩) hw hw.tl hN (TW.call own_2) (fun U hU hW => hZ.steps.moved own_2 hW (fun q _ => by rw [hU])) 70 (cons_at hc) rfl rfl hl.1 rfl (Nat.le_of_ble_eq_true rfl) d_Law_run_4 ⟨Nat.le_of_ble_eq_true rfl, Nat.le_of_ble_eq_true rfl⟩ [] q0 L0 (by rw [t0]; rfl) (fun z hz => absurd hz List.not_mem_nil) (tab_cov a0_ b0_ rfl) (by rw [d0_]; decide) c0_ (by rw [d0_]; exact tb_3_67) (hZ.steps.cast _) (fun a9 H hold hw => ?_)
  refine lv_astore_n (lv' := [(3, .ref a9), (0, .ref co), (1, .int a0), (2, .ref ou)]) hx hb d_Law_run_12 rfl hl (by decide) rfl (fun ls hl => ?_)
  refine lv_iconst (v := 1) hx hb d_Law_run_13 (by decide) ?_
  exact qx_ret S hr hlk hw.2.2.2.1 hold d_Law_run_14
set_option maxHeartbeats 4000000 in
set_option maxRecDepth 100000 in
theorem x_Law_runY (l : Launch) (D : va_G) (ti : Nat → ClassId) (co : Nat) (ou : Nat) (f : Nat → Int64) (wc : va_W) (a0 : Int32) (hc : ∃ fs, wc[69]? = some (co, .inr (10, fs))) (hM : CT1 l y_Cor_run (wl y_Cor_run b_Cor_run 3 (some .int)) D ti [.ref co, .int a0] wc 104 X3 137 "the machine is halted") : Cx l y_Law_run (wlW y_Law_run b_Law_run 4 (some .int) hh_Law_run) (rmC 7 1 6) D clz (ty4 ti) [.ref co, .int a0, .ref ou] ((ou, lo ti f) :: wc) 2 := by
  obtain ⟨fs, hc⟩ := hc
  refine Cx.of (by decide) (Nat.le_of_ble_eq_true rfl) ?_
  intro p9 e9 s9 m9 b9 me9 c9 ls S htb hr hlk hl hN hZ hw
  obtain ⟨hx, hb, hml, hown, hts⟩ := id S
  have hl : lv_has ls 4 [(0, .ref co), (1, .int a0), (2, .ref ou)] := hl
  refine lv_aload_n hx hb d_Law_run_0 rfl (lv_at hl 2 rfl) ?_
  refine lv_iconst (v := 0) hx hb d_Law_run_1 (by decide) ?_
  refine lv_aload_n hx hb d_Law_run_2 rfl (lv_at hl 0 rfl) ?_
  refine lv_iload_n hx hb d_Law_run_3 rfl (lv_at hl 1 rfl) ?_
  obtain ⟨q0, L0, t0, a0_, b0_, c0_, d0_, htb0⟩ := tab_cons htb
  obtain ⟨q1, L1, t1, a1_, b1_, c1_, d1_, htb1⟩ := tab_cons htb0
  refine q_catch (X := X3) (rest := [.int (0 : Int32), .ref ou]) S (hM _) (cw_vT hts tb_3_144 k_Cor_run rfl rfl ⟨by decide, by decide⟩) hw hw.tl hN (TW.call own_3) (fun U hU hW => hZ.halted.moved own_3 hW (fun q _ => by rw [hU])) 70 (cons_at hc) rfl rfl hl.1 rfl (Nat.le_of_ble_eq_true rfl) d_Law_run_4 ⟨Nat.le_of_ble_eq_true rfl, Nat.le_of_ble_eq_true rfl⟩ [q0] q1 L1 (by rw [t0, t1]; rfl) (List.forall_mem_cons.mpr ⟨Or.inr ⟨"java/lang/IllegalArgumentException", by rw [d0_]; decide, by rw [d0_]; exact tb_3_67, hZ.n32 _⟩, (fun z hz => absurd hz List.not_mem_nil)⟩) (tab_cov a1_ b1_ rfl) (by rw [d1_]; decide) c1_ (by rw [d1_]; exact tb_3_68) (hZ.halted.cast _) (fun a9 H hold hw => ?_)
  refine lv_astore_n (lv' := [(3, .ref a9), (0, .ref co), (1, .int a0), (2, .ref ou)]) hx hb d_Law_run_15 rfl hl (by decide) rfl (fun ls hl => ?_)
  refine lv_iconst (v := 2) hx hb d_Law_run_16 (by decide) ?_
  exact qx_ret S hr hlk hw.2.2.2.1 hold d_Law_run_17
set_option maxHeartbeats 4000000 in
set_option maxRecDepth 100000 in
theorem g_Law_told (l : Launch) (D : va_G) (ti : Nat → ClassId) (co : Nat) (ou : Nat) (f : Nat → Int64) (wc : va_W) (a0 a1 : Int32) (P : va_W → Prop) (v : Int32) (hc : ∃ fs, wc[69]? = some (co, .inr (10, fs))) (hM : CK l y_Cor_told (wl y_Cor_told b_Cor_told 4 (some .int)) (rmL 2) D ti [.ref co, .int a0, .int a1] wc P (some (.int v))) : Cg l y_Law_told (wlW y_Law_told b_Law_told 5 (some .int) hh_Law_told) (rmL 9) D clz (ty4 ti) [.ref co, .int a0, .int a1, .ref ou] ((ou, lo ti f) :: wc) (fun _ : Pz wc P => some (.int 0)) (fun z => (ou, lo ti (vp_updL f 0 v.toInt64)) :: z.1) (fun _ => True) := by
  obtain ⟨fs, hc⟩ := hc
  refine Cg.ofW (by decide) (Nat.le_of_ble_eq_true rfl) ?_
  intro p9 e9 s9 m9 b9 me9 c9 ls S hr hlk hl hw
  obtain ⟨hx, hb, hml, hown, hts⟩ := id S
  have hl : lv_has ls 5 [(0, .ref co), (1, .int a0), (2, .int a1), (3, .ref ou)] := hl
  refine lv_aload_n hx hb d_Law_told_0 rfl (lv_at hl 3 rfl) ?_
  refine lv_iconst (v := 0) hx hb d_Law_told_1 (by decide) ?_
  refine lv_aload_n hx hb d_Law_told_2 rfl (lv_at hl 0 rfl) ?_
  refine lv_iload_n hx hb d_Law_told_3 rfl (lv_at hl 1 rfl) ?_
  refine lv_iload_n hx hb d_Law_told_4 rfl (lv_at hl 2 rfl) ?_
  refine q_cg (q_runV (As := [.int a0, .int a1]) (rest := [.int (0 : Int32), .ref ou]) S (Cg.back hM (fun z => z.len) [(ou, lo ti f)]) (cw_v hts tb_4_232 k_Cor_told rfl rfl ⟨by decide, by decide⟩) hw 70 (cons_at hc) rfl rfl hl.1 rfl (Nat.le_of_ble_eq_true rfl) d_Law_told_5 ⟨Nat.zero_le _, Nat.zero_le _⟩) hw (fun z hD => z.cons hD) (fun z9 H locs _ hw => ?_)
  refine W.eq (g2 := F0 m9 8 ls [.int v, .int (0 : Int32), .ref ou]) rfl ?_
  have hw : Lv _ _ _ _ _ ((ou, lo ti f) :: z9.1) _ _ _ := hw
  refine lv_i2l (v := (v.toInt64)) hx hb d_Law_told_8 rfl ?_
  refine q_lastN (k := 0) S hw 0 2 rfl rfl (by first | assumption | omega) (by decide) d_Law_told_9 (fun H locs hw => ?_)
  have hw : Lv _ _ _ _ _ ((ou, lo ti (vp_updL f 0 (v.toInt64))) :: z9.1) _ _ _ := hw
  refine lv_goto hx hb d_Law_told_10 rfl ?_
  refine lv_iconst (v := 0) hx hb d_Law_told_21 (by decide) ?_
  exact hw.riz S hr hlk rfl d_Law_told_22 z9 rfl trivial (rfl)
set_option maxHeartbeats 4000000 in
set_option maxRecDepth 100000 in
theorem x_Law_toldX (l : Launch) (D : va_G) (ti : Nat → ClassId) (co : Nat) (ou : Nat) (f : Nat → Int64) (wc : va_W) (a0 a1 : Int32) (hc : ∃ fs, wc[69]? = some (co, .inr (10, fs))) (hM : CT1 l y_Cor_told (wl y_Cor_told b_Cor_told 4 (some .int)) D ti [.ref co, .int a0, .int a1] wc 58 X1 85 "no such register") : Cx l y_Law_told (wlW y_Law_told b_Law_told 5 (some .int) hh_Law_told) (rmC 7 1 6) D clz (ty4 ti) [.ref co, .int a0, .int a1, .ref ou] ((ou, lo ti f) :: wc) 1 := by
  obtain ⟨fs, hc⟩ := hc
  refine Cx.of (by decide) (Nat.le_of_ble_eq_true rfl) ?_
  intro p9 e9 s9 m9 b9 me9 c9 ls S htb hr hlk hl hN hZ hw
  obtain ⟨hx, hb, hml, hown, hts⟩ := id S
  have hl : lv_has ls 5 [(0, .ref co), (1, .int a0), (2, .int a1), (3, .ref ou)] := hl
  refine lv_aload_n hx hb d_Law_told_0 rfl (lv_at hl 3 rfl) ?_
  refine lv_iconst (v := 0) hx hb d_Law_told_1 (by decide) ?_
  refine lv_aload_n hx hb d_Law_told_2 rfl (lv_at hl 0 rfl) ?_
  refine lv_iload_n hx hb d_Law_told_3 rfl (lv_at hl 1 rfl) ?_
  refine lv_iload_n hx hb d_Law_told_4 rfl (lv_at hl 2 rfl) ?_
  obtain ⟨q0, L0, t0, a0_, b0_, c0_, d0_, htb0⟩ := tab_cons htb
  refine q_catch (X := X1) (rest := [.int (0 : Int32), .ref ou]) S (hM _) (cw_vT hts tb_4_232 k_Cor_told rfl rfl ⟨by decide, by decide⟩) hw hw.tl hN (TW.call own_1) (fun U hU hW => hZ.reg.moved own_1 hW (fun q _ => by rw [hU])) 70 (cons_at hc) rfl rfl hl.1 rfl (Nat.le_of_ble_eq_true rfl) d_Law_told_5 ⟨Nat.le_of_ble_eq_true rfl, Nat.le_of_ble_eq_true rfl⟩ [] q0 L0 (by rw [t0]; rfl) (fun z hz => absurd hz List.not_mem_nil) (tab_cov a0_ b0_ rfl) (by rw [d0_]; decide) c0_ (by rw [d0_]; exact tb_2_189) (hZ.reg.cast _) (fun a9 H hold hw => ?_)
  refine lv_astore (lv' := [(4, .ref a9), (0, .ref co), (1, .int a0), (2, .int a1), (3, .ref ou)]) hx hb d_Law_told_13 hl (by decide) rfl (fun ls hl => ?_)
  refine lv_iconst (v := 1) hx hb d_Law_told_15 (by decide) ?_
  exact qx_ret S hr hlk hw.2.2.2.1 hold d_Law_told_16
set_option maxHeartbeats 4000000 in
set_option maxRecDepth 100000 in
theorem x_Law_toldY (l : Launch) (D : va_G) (ti : Nat → ClassId) (co : Nat) (ou : Nat) (f : Nat → Int64) (wc : va_W) (a0 a1 : Int32) (hc : ∃ fs, wc[69]? = some (co, .inr (10, fs))) (hM : CT1 l y_Cor_told (wl y_Cor_told b_Cor_told 4 (some .int)) D ti [.ref co, .int a0, .int a1] wc 95 X2 161 "nothing of that number is told") : Cx l y_Law_told (wlW y_Law_told b_Law_told 5 (some .int) hh_Law_told) (rmC 7 1 6) D clz (ty4 ti) [.ref co, .int a0, .int a1, .ref ou] ((ou, lo ti f) :: wc) 2 := by
  obtain ⟨fs, hc⟩ := hc
  refine Cx.of (by decide) (Nat.le_of_ble_eq_true rfl) ?_
  intro p9 e9 s9 m9 b9 me9 c9 ls S htb hr hlk hl hN hZ hw
  obtain ⟨hx, hb, hml, hown, hts⟩ := id S
  have hl : lv_has ls 5 [(0, .ref co), (1, .int a0), (2, .int a1), (3, .ref ou)] := hl
  refine lv_aload_n hx hb d_Law_told_0 rfl (lv_at hl 3 rfl) ?_
  refine lv_iconst (v := 0) hx hb d_Law_told_1 (by decide) ?_
  refine lv_aload_n hx hb d_Law_told_2 rfl (lv_at hl 0 rfl) ?_
  refine lv_iload_n hx hb d_Law_told_3 rfl (lv_at hl 1 rfl) ?_
  refine lv_iload_n hx hb d_Law_told_4 rfl (lv_at hl 2 rfl) ?_
  obtain ⟨q0, L0, t0, a0_, b0_, c0_, d0_, htb0⟩ := tab_cons htb
  obtain ⟨q1, L1, t1, a1_, b1_, c1_, d1_, htb1⟩ := tab_cons htb0
  refine q_catch (X := X2) (rest := [.int (0 : Int32), .ref ou]) S (hM _) (cw_vT hts tb_4_232 k_Cor_told rfl rfl ⟨by decide, by decide⟩) hw hw.tl hN (TW.call own_2) (fun U hU hW => hZ.told.moved own_2 hW (fun q _ => by rw [hU])) 70 (cons_at hc) rfl rfl hl.1 rfl (Nat.le_of_ble_eq_true rfl) d_Law_told_5 ⟨Nat.le_of_ble_eq_true rfl, Nat.le_of_ble_eq_true rfl⟩ [q0] q1 L1 (by rw [t0, t1]; rfl) (List.forall_mem_cons.mpr ⟨Or.inr ⟨"java/lang/IndexOutOfBoundsException", by rw [d0_]; decide, by rw [d0_]; exact tb_2_189, hZ.n21 _⟩, (fun z hz => absurd hz List.not_mem_nil)⟩) (tab_cov a1_ b1_ rfl) (by rw [d1_]; decide) c1_ (by rw [d1_]; exact tb_3_67) (hZ.told.cast _) (fun a9 H hold hw => ?_)
  refine lv_astore (lv' := [(4, .ref a9), (0, .ref co), (1, .int a0), (2, .int a1), (3, .ref ou)]) hx hb d_Law_told_17 hl (by decide) rfl (fun ls hl => ?_)
  refine lv_iconst (v := 2) hx hb d_Law_told_19 (by decide) ?_
  exact qx_ret S hr hlk hw.2.2.2.1 hold d_Law_told_20
set_option maxHeartbeats 4000000 in
set_option maxRecDepth 100000 in
theorem g_Law_memory (l : Launch) (D : va_G) (ti : Nat → ClassId) (co : Nat) (ou : Nat) (f : Nat → Int64) (wc : va_W) (a0 : Int32) (P : va_W → Prop) (v : Int32) (hc : ∃ fs, wc[69]? = some (co, .inr (10, fs))) (hM : CK l y_Cor_memory (wl y_Cor_memory b_Cor_memory 2 (some .int)) (rmL 3) D ti [.ref co, .int a0] wc P (some (.int v))) : Cg l y_Law_memory (wlW y_Law_memory b_Law_memory 4 (some .int) hh_Law_memory) (rmL 9) D clz (ty4 ti) [.ref co, .int a0, .ref ou] ((ou, lo ti f) :: wc) (fun _ : Pz wc P => some (.int 0)) (fun z => (ou, lo ti (vp_updL f 0 v.toInt64)) :: z.1) (fun _ => True) := by
  obtain ⟨fs, hc⟩ := hc
  refine Cg.ofW (by decide) (Nat.le_of_ble_eq_true rfl) ?_
  intro p9 e9 s9 m9 b9 me9 c9 ls S hr hlk hl hw
  obtain ⟨hx, hb, hml, hown, hts⟩ := id S
  have hl : lv_has ls 4 [(0, .ref co), (1, .int a0), (2, .ref ou)] := hl
  refine lv_aload_n hx hb d_Law_memory_0 rfl (lv_at hl 2 rfl) ?_
  refine lv_iconst (v := 0) hx hb d_Law_memory_1 (by decide) ?_
  refine lv_aload_n hx hb d_Law_memory_2 rfl (lv_at hl 0 rfl) ?_
  refine lv_iload_n hx hb d_Law_memory_3 rfl (lv_at hl 1 rfl) ?_
  refine q_cg (q_runV (As := [.int a0]) (rest := [.int (0 : Int32), .ref ou]) S (Cg.back hM (fun z => z.len) [(ou, lo ti f)]) (cw_v hts tb_5_4 k_Cor_memory rfl rfl ⟨by decide, by decide⟩) hw 70 (cons_at hc) rfl rfl hl.1 rfl (Nat.le_of_ble_eq_true rfl) d_Law_memory_4 ⟨Nat.zero_le _, Nat.zero_le _⟩) hw (fun z hD => z.cons hD) (fun z9 H locs _ hw => ?_)
  refine W.eq (g2 := F0 m9 7 ls [.int v, .int (0 : Int32), .ref ou]) rfl ?_
  have hw : Lv _ _ _ _ _ ((ou, lo ti f) :: z9.1) _ _ _ := hw
  refine lv_i2l (v := (v.toInt64)) hx hb d_Law_memory_7 rfl ?_
  refine q_lastN (k := 0) S hw 0 2 rfl rfl (by first | assumption | omega) (by decide) d_Law_memory_8 (fun H locs hw => ?_)
  have hw : Lv _ _ _ _ _ ((ou, lo ti (vp_updL f 0 (v.toInt64))) :: z9.1) _ _ _ := hw
  refine lv_goto hx hb d_Law_memory_9 rfl ?_
  refine lv_iconst (v := 0) hx hb d_Law_memory_15 (by decide) ?_
  exact hw.riz S hr hlk rfl d_Law_memory_16 z9 rfl trivial (rfl)
set_option maxHeartbeats 4000000 in
set_option maxRecDepth 100000 in
theorem x_Law_memory (l : Launch) (D : va_G) (ti : Nat → ClassId) (co : Nat) (ou : Nat) (f : Nat → Int64) (wc : va_W) (a0 : Int32) (hc : ∃ fs, wc[69]? = some (co, .inr (10, fs))) (hM : CT1 l y_Cor_memory (wl y_Cor_memory b_Cor_memory 2 (some .int)) D ti [.ref co, .int a0] wc 58 X1 56 "no such word") : Cx l y_Law_memory (wlW y_Law_memory b_Law_memory 4 (some .int) hh_Law_memory) (rmC 7 1 6) D clz (ty4 ti) [.ref co, .int a0, .ref ou] ((ou, lo ti f) :: wc) 1 := by
  obtain ⟨fs, hc⟩ := hc
  refine Cx.of (by decide) (Nat.le_of_ble_eq_true rfl) ?_
  intro p9 e9 s9 m9 b9 me9 c9 ls S htb hr hlk hl hN hZ hw
  obtain ⟨hx, hb, hml, hown, hts⟩ := id S
  have hl : lv_has ls 4 [(0, .ref co), (1, .int a0), (2, .ref ou)] := hl
  refine lv_aload_n hx hb d_Law_memory_0 rfl (lv_at hl 2 rfl) ?_
  refine lv_iconst (v := 0) hx hb d_Law_memory_1 (by decide) ?_
  refine lv_aload_n hx hb d_Law_memory_2 rfl (lv_at hl 0 rfl) ?_
  refine lv_iload_n hx hb d_Law_memory_3 rfl (lv_at hl 1 rfl) ?_
  obtain ⟨q0, L0, t0, a0_, b0_, c0_, d0_, htb0⟩ := tab_cons htb
  refine q_catch (X := X1) (rest := [.int (0 : Int32), .ref ou]) S (hM _) (cw_vT hts tb_5_4 k_Cor_memory rfl rfl ⟨by decide, by decide⟩) hw hw.tl hN (TW.call own_1) (fun U hU hW => hZ.word.moved own_1 hW (fun q _ => by rw [hU])) 70 (cons_at hc) rfl rfl hl.1 rfl (Nat.le_of_ble_eq_true rfl) d_Law_memory_4 ⟨Nat.le_of_ble_eq_true rfl, Nat.le_of_ble_eq_true rfl⟩ [] q0 L0 (by rw [t0]; rfl) (fun z hz => absurd hz List.not_mem_nil) (tab_cov a0_ b0_ rfl) (by rw [d0_]; decide) c0_ (by rw [d0_]; exact tb_2_189) (hZ.word.cast _) (fun a9 H hold hw => ?_)
  refine lv_astore_n (lv' := [(3, .ref a9), (0, .ref co), (1, .int a0), (2, .ref ou)]) hx hb d_Law_memory_12 rfl hl (by decide) rfl (fun ls hl => ?_)
  refine lv_iconst (v := 1) hx hb d_Law_memory_13 (by decide) ?_
  exact qx_ret S hr hlk hw.2.2.2.1 hold d_Law_memory_14
set_option maxHeartbeats 4000000 in
set_option maxRecDepth 100000 in
theorem g_Law_tag (l : Launch) (D : va_G) (ti : Nat → ClassId) (co : Nat) (ou : Nat) (f : Nat → Int64) (wc : va_W) (a0 : Int32) (P : va_W → Prop) (v : Bool) (hc : ∃ fs, wc[69]? = some (co, .inr (10, fs))) (hM : CK l y_Cor_tag (wl y_Cor_tag b_Cor_tag 2 (some .boolean)) (rmL 3) D ti [.ref co, .int a0] wc P (some (.int (jb v)))) : Cg l y_Law_tag (wlW y_Law_tag b_Law_tag 4 (some .int) hh_Law_tag) (rmL 9) D clz (ty4 ti) [.ref co, .int a0, .ref ou] ((ou, lo ti f) :: wc) (fun _ : Pz wc P => some (.int 0)) (fun z => (ou, lo ti (vp_updL f 0 (lb v))) :: z.1) (fun _ => True) := by
  obtain ⟨fs, hc⟩ := hc
  refine Cg.ofW (by decide) (Nat.le_of_ble_eq_true rfl) ?_
  intro p9 e9 s9 m9 b9 me9 c9 ls S hr hlk hl hw
  obtain ⟨hx, hb, hml, hown, hts⟩ := id S
  have hl : lv_has ls 4 [(0, .ref co), (1, .int a0), (2, .ref ou)] := hl
  refine lv_aload_n hx hb d_Law_tag_0 rfl (lv_at hl 2 rfl) ?_
  refine lv_iconst (v := 0) hx hb d_Law_tag_1 (by decide) ?_
  refine lv_aload_n hx hb d_Law_tag_2 rfl (lv_at hl 0 rfl) ?_
  refine lv_iload_n hx hb d_Law_tag_3 rfl (lv_at hl 1 rfl) ?_
  refine q_cg (q_runV (As := [.int a0]) (rest := [.int (0 : Int32), .ref ou]) S (Cg.back hM (fun z => z.len) [(ou, lo ti f)]) (cw_v hts tb_5_11 k_Cor_tag rfl rfl ⟨by decide, by decide⟩) hw 70 (cons_at hc) rfl rfl hl.1 rfl (Nat.le_of_ble_eq_true rfl) d_Law_tag_4 ⟨Nat.zero_le _, Nat.zero_le _⟩) hw (fun z hD => z.cons hD) (fun z9 H locs _ hw => ?_)
  refine W.eq (g2 := F0 m9 7 ls [.int (jb v), .int (0 : Int32), .ref ou]) rfl ?_
  have hw : Lv _ _ _ _ _ ((ou, lo ti f) :: z9.1) _ _ _ := hw
  refine q_ifz_eq S d_Law_tag_7 rfl (fun h7 => ?_) (fun h7 => ?_)
  · refine lv_lconst (v := 0) hx hb d_Law_tag_14 (by decide) ?_
    refine q_lastN (k := 0) S hw 0 2 rfl rfl (by first | assumption | omega) (by decide) d_Law_tag_15 (fun H locs hw => ?_)
    have hw : Lv _ _ _ _ _ ((ou, lo ti (vp_updL f 0 (0 : Int64))) :: z9.1) _ _ _ := hw
    refine lv_goto hx hb d_Law_tag_16 rfl ?_
    refine lv_iconst (v := 0) hx hb d_Law_tag_22 (by decide) ?_
    exact hw.riz S hr hlk rfl d_Law_tag_23 z9 rfl trivial (by rw [show lb v = 0 from by unfold lb; rw [h7]; rfl])
  · refine lv_lconst (v := 1) hx hb d_Law_tag_10 (by decide) ?_
    refine lv_goto hx hb d_Law_tag_11 rfl ?_
    refine q_lastN (k := 0) S hw 0 2 rfl rfl (by first | assumption | omega) (by decide) d_Law_tag_15 (fun H locs hw => ?_)
    have hw : Lv _ _ _ _ _ ((ou, lo ti (vp_updL f 0 (1 : Int64))) :: z9.1) _ _ _ := hw
    refine lv_goto hx hb d_Law_tag_16 rfl ?_
    refine lv_iconst (v := 0) hx hb d_Law_tag_22 (by decide) ?_
    exact hw.riz S hr hlk rfl d_Law_tag_23 z9 rfl trivial (by rw [show lb v = 1 from by unfold lb; rw [h7]; rfl])
set_option maxHeartbeats 4000000 in
set_option maxRecDepth 100000 in
theorem x_Law_tag (l : Launch) (D : va_G) (ti : Nat → ClassId) (co : Nat) (ou : Nat) (f : Nat → Int64) (wc : va_W) (a0 : Int32) (hc : ∃ fs, wc[69]? = some (co, .inr (10, fs))) (hM : CT1 l y_Cor_tag (wl y_Cor_tag b_Cor_tag 2 (some .boolean)) D ti [.ref co, .int a0] wc 58 X1 56 "no such word") : Cx l y_Law_tag (wlW y_Law_tag b_Law_tag 4 (some .int) hh_Law_tag) (rmC 7 1 6) D clz (ty4 ti) [.ref co, .int a0, .ref ou] ((ou, lo ti f) :: wc) 1 := by
  obtain ⟨fs, hc⟩ := hc
  refine Cx.of (by decide) (Nat.le_of_ble_eq_true rfl) ?_
  intro p9 e9 s9 m9 b9 me9 c9 ls S htb hr hlk hl hN hZ hw
  obtain ⟨hx, hb, hml, hown, hts⟩ := id S
  have hl : lv_has ls 4 [(0, .ref co), (1, .int a0), (2, .ref ou)] := hl
  refine lv_aload_n hx hb d_Law_tag_0 rfl (lv_at hl 2 rfl) ?_
  refine lv_iconst (v := 0) hx hb d_Law_tag_1 (by decide) ?_
  refine lv_aload_n hx hb d_Law_tag_2 rfl (lv_at hl 0 rfl) ?_
  refine lv_iload_n hx hb d_Law_tag_3 rfl (lv_at hl 1 rfl) ?_
  obtain ⟨q0, L0, t0, a0_, b0_, c0_, d0_, htb0⟩ := tab_cons htb
  refine q_catch (X := X1) (rest := [.int (0 : Int32), .ref ou]) S (hM _) (cw_vT hts tb_5_11 k_Cor_tag rfl rfl ⟨by decide, by decide⟩) hw hw.tl hN (TW.call own_1) (fun U hU hW => hZ.word.moved own_1 hW (fun q _ => by rw [hU])) 70 (cons_at hc) rfl rfl hl.1 rfl (Nat.le_of_ble_eq_true rfl) d_Law_tag_4 ⟨Nat.le_of_ble_eq_true rfl, Nat.le_of_ble_eq_true rfl⟩ [] q0 L0 (by rw [t0]; rfl) (fun z hz => absurd hz List.not_mem_nil) (tab_cov a0_ b0_ rfl) (by rw [d0_]; decide) c0_ (by rw [d0_]; exact tb_2_189) (hZ.word.cast _) (fun a9 H hold hw => ?_)
  refine lv_astore_n (lv' := [(3, .ref a9), (0, .ref co), (1, .int a0), (2, .ref ou)]) hx hb d_Law_tag_19 rfl hl (by decide) rfl (fun ls hl => ?_)
  refine lv_iconst (v := 1) hx hb d_Law_tag_20 (by decide) ?_
  exact qx_ret S hr hlk hw.2.2.2.1 hold d_Law_tag_21
set_option maxHeartbeats 4000000 in
set_option maxRecDepth 100000 in
theorem g_Law_count (l : Launch) (D : va_G) (ti : Nat → ClassId) (co : Nat) (ou : Nat) (f : Nat → Int64) (wc : va_W) (a0 : Int32) (P : va_W → Prop) (v : Int32) (hc : ∃ fs, wc[69]? = some (co, .inr (10, fs))) (hM : CK l y_Cor_count (wl y_Cor_count b_Cor_count 2 (some .int)) (rmL 3) D ti [.ref co, .int a0] wc P (some (.int v))) : Cg l y_Law_count (wlW y_Law_count b_Law_count 4 (some .int) hh_Law_count) (rmL 9) D clz (ty4 ti) [.ref co, .int a0, .ref ou] ((ou, lo ti f) :: wc) (fun _ : Pz wc P => some (.int 0)) (fun z => (ou, lo ti (vp_updL f 0 v.toInt64)) :: z.1) (fun _ => True) := by
  obtain ⟨fs, hc⟩ := hc
  refine Cg.ofW (by decide) (Nat.le_of_ble_eq_true rfl) ?_
  intro p9 e9 s9 m9 b9 me9 c9 ls S hr hlk hl hw
  obtain ⟨hx, hb, hml, hown, hts⟩ := id S
  have hl : lv_has ls 4 [(0, .ref co), (1, .int a0), (2, .ref ou)] := hl
  refine lv_aload_n hx hb d_Law_count_0 rfl (lv_at hl 2 rfl) ?_
  refine lv_iconst (v := 0) hx hb d_Law_count_1 (by decide) ?_
  refine lv_aload_n hx hb d_Law_count_2 rfl (lv_at hl 0 rfl) ?_
  refine lv_iload_n hx hb d_Law_count_3 rfl (lv_at hl 1 rfl) ?_
  refine q_cg (q_runV (As := [.int a0]) (rest := [.int (0 : Int32), .ref ou]) S (Cg.back hM (fun z => z.len) [(ou, lo ti f)]) (cw_v hts tb_5_18 k_Cor_count rfl rfl ⟨by decide, by decide⟩) hw 70 (cons_at hc) rfl rfl hl.1 rfl (Nat.le_of_ble_eq_true rfl) d_Law_count_4 ⟨Nat.zero_le _, Nat.zero_le _⟩) hw (fun z hD => z.cons hD) (fun z9 H locs _ hw => ?_)
  refine W.eq (g2 := F0 m9 7 ls [.int v, .int (0 : Int32), .ref ou]) rfl ?_
  have hw : Lv _ _ _ _ _ ((ou, lo ti f) :: z9.1) _ _ _ := hw
  refine lv_i2l (v := (v.toInt64)) hx hb d_Law_count_7 rfl ?_
  refine q_lastN (k := 0) S hw 0 2 rfl rfl (by first | assumption | omega) (by decide) d_Law_count_8 (fun H locs hw => ?_)
  have hw : Lv _ _ _ _ _ ((ou, lo ti (vp_updL f 0 (v.toInt64))) :: z9.1) _ _ _ := hw
  refine lv_goto hx hb d_Law_count_9 rfl ?_
  refine lv_iconst (v := 0) hx hb d_Law_count_15 (by decide) ?_
  exact hw.riz S hr hlk rfl d_Law_count_16 z9 rfl trivial (rfl)
set_option maxHeartbeats 4000000 in
set_option maxRecDepth 100000 in
theorem x_Law_count (l : Launch) (D : va_G) (ti : Nat → ClassId) (co : Nat) (ou : Nat) (f : Nat → Int64) (wc : va_W) (a0 : Int32) (hc : ∃ fs, wc[69]? = some (co, .inr (10, fs))) (hM : CT1 l y_Cor_count (wl y_Cor_count b_Cor_count 2 (some .int)) D ti [.ref co, .int a0] wc 95 X2 184 "nothing of that number is counted") : Cx l y_Law_count (wlW y_Law_count b_Law_count 4 (some .int) hh_Law_count) (rmC 7 1 6) D clz (ty4 ti) [.ref co, .int a0, .ref ou] ((ou, lo ti f) :: wc) 1 := by
  obtain ⟨fs, hc⟩ := hc
  refine Cx.of (by decide) (Nat.le_of_ble_eq_true rfl) ?_
  intro p9 e9 s9 m9 b9 me9 c9 ls S htb hr hlk hl hN hZ hw
  obtain ⟨hx, hb, hml, hown, hts⟩ := id S
  have hl : lv_has ls 4 [(0, .ref co), (1, .int a0), (2, .ref ou)] := hl
  refine lv_aload_n hx hb d_Law_count_0 rfl (lv_at hl 2 rfl) ?_
  refine lv_iconst (v := 0) hx hb d_Law_count_1 (by decide) ?_
  refine lv_aload_n hx hb d_Law_count_2 rfl (lv_at hl 0 rfl) ?_
  refine lv_iload_n hx hb d_Law_count_3 rfl (lv_at hl 1 rfl) ?_
  obtain ⟨q0, L0, t0, a0_, b0_, c0_, d0_, htb0⟩ := tab_cons htb
  refine q_catch (X := X2) (rest := [.int (0 : Int32), .ref ou]) S (hM _) (cw_vT hts tb_5_18 k_Cor_count rfl rfl ⟨by decide, by decide⟩) hw hw.tl hN (TW.call own_2) (fun U hU hW => hZ.counted.moved own_2 hW (fun q _ => by rw [hU])) 70 (cons_at hc) rfl rfl hl.1 rfl (Nat.le_of_ble_eq_true rfl) d_Law_count_4 ⟨Nat.le_of_ble_eq_true rfl, Nat.le_of_ble_eq_true rfl⟩ [] q0 L0 (by rw [t0]; rfl) (fun z hz => absurd hz List.not_mem_nil) (tab_cov a0_ b0_ rfl) (by rw [d0_]; decide) c0_ (by rw [d0_]; exact tb_3_67) (hZ.counted.cast _) (fun a9 H hold hw => ?_)
  refine lv_astore_n (lv' := [(3, .ref a9), (0, .ref co), (1, .int a0), (2, .ref ou)]) hx hb d_Law_count_12 rfl hl (by decide) rfl (fun ls hl => ?_)
  refine lv_iconst (v := 1) hx hb d_Law_count_13 (by decide) ?_
  exact qx_ret S hr hlk hw.2.2.2.1 hold d_Law_count_14
set_option maxHeartbeats 4000000 in
set_option maxRecDepth 100000 in
theorem g_Law_pack (l : Launch) (D : va_G) (ti : Nat → ClassId) (co : Nat) (ou : Nat) (f : Nat → Int64) (wc : va_W) (a0 : Int32) (a1 : Int64) (P : va_W → Prop) (v : Int32) (hc : ∃ fs, wc[69]? = some (co, .inr (10, fs))) (hM : CK l y_Cor_pack (wl y_Cor_pack b_Cor_pack 6 (some .int)) (rmL 3) D ti [.ref co, .int a0, .long a1] wc P (some (.int v))) : Cg l y_Law_pack (wlW y_Law_pack b_Law_pack 6 (some .int) hh_Law_pack) (rmL 9) D clz (ty4 ti) [.ref co, .int a0, .long a1, .ref ou] ((ou, lo ti f) :: wc) (fun _ : Pz wc P => some (.int 0)) (fun z => (ou, lo ti (vp_updL f 0 v.toInt64)) :: z.1) (fun _ => True) := by
  obtain ⟨fs, hc⟩ := hc
  refine Cg.ofW (by decide) (Nat.le_of_ble_eq_true rfl) ?_
  intro p9 e9 s9 m9 b9 me9 c9 ls S hr hlk hl hw
  obtain ⟨hx, hb, hml, hown, hts⟩ := id S
  have hl : lv_has ls 6 [(0, .ref co), (1, .int a0), (2, .long a1), (4, .ref ou)] := hl
  refine lv_aload hx hb d_Law_pack_0 (lv_at hl 3 rfl) ?_
  refine lv_iconst (v := 0) hx hb d_Law_pack_2 (by decide) ?_
  refine lv_aload_n hx hb d_Law_pack_3 rfl (lv_at hl 0 rfl) ?_
  refine lv_iload_n hx hb d_Law_pack_4 rfl (lv_at hl 1 rfl) ?_
  refine lv_lload_n hx hb d_Law_pack_5 rfl (lv_at hl 2 rfl) ?_
  refine q_cg (q_runV (As := [.int a0, .long a1]) (rest := [.int (0 : Int32), .ref ou]) S (Cg.back hM (fun z => z.len) [(ou, lo ti f)]) (cw_v hts tb_5_30 k_Cor_pack rfl rfl ⟨by decide, by decide⟩) hw 70 (cons_at hc) rfl rfl hl.1 rfl (Nat.le_of_ble_eq_true rfl) d_Law_pack_6 ⟨Nat.zero_le _, Nat.zero_le _⟩) hw (fun z hD => z.cons hD) (fun z9 H locs _ hw => ?_)
  refine W.eq (g2 := F0 m9 9 ls [.int v, .int (0 : Int32), .ref ou]) rfl ?_
  have hw : Lv _ _ _ _ _ ((ou, lo ti f) :: z9.1) _ _ _ := hw
  refine lv_i2l (v := (v.toInt64)) hx hb d_Law_pack_9 rfl ?_
  refine q_lastN (k := 0) S hw 0 2 rfl rfl (by first | assumption | omega) (by decide) d_Law_pack_10 (fun H locs hw => ?_)
  have hw : Lv _ _ _ _ _ ((ou, lo ti (vp_updL f 0 (v.toInt64))) :: z9.1) _ _ _ := hw
  refine lv_goto hx hb d_Law_pack_11 rfl ?_
  refine lv_iconst (v := 0) hx hb d_Law_pack_18 (by decide) ?_
  exact hw.riz S hr hlk rfl d_Law_pack_19 z9 rfl trivial (rfl)
set_option maxHeartbeats 4000000 in
set_option maxRecDepth 100000 in
theorem x_Law_pack (l : Launch) (D : va_G) (ti : Nat → ClassId) (co : Nat) (ou : Nat) (f : Nat → Int64) (wc : va_W) (a0 : Int32) (a1 : Int64) (hc : ∃ fs, wc[69]? = some (co, .inr (10, fs))) (hM : CT1 l y_Cor_pack (wl y_Cor_pack b_Cor_pack 6 (some .int)) D ti [.ref co, .int a0, .long a1] wc 95 X2 186 "beyond the space of addresses") : Cx l y_Law_pack (wlW y_Law_pack b_Law_pack 6 (some .int) hh_Law_pack) (rmC 7 1 6) D clz (ty4 ti) [.ref co, .int a0, .long a1, .ref ou] ((ou, lo ti f) :: wc) 1 := by
  obtain ⟨fs, hc⟩ := hc
  refine Cx.of (by decide) (Nat.le_of_ble_eq_true rfl) ?_
  intro p9 e9 s9 m9 b9 me9 c9 ls S htb hr hlk hl hN hZ hw
  obtain ⟨hx, hb, hml, hown, hts⟩ := id S
  have hl : lv_has ls 6 [(0, .ref co), (1, .int a0), (2, .long a1), (4, .ref ou)] := hl
  refine lv_aload hx hb d_Law_pack_0 (lv_at hl 3 rfl) ?_
  refine lv_iconst (v := 0) hx hb d_Law_pack_2 (by decide) ?_
  refine lv_aload_n hx hb d_Law_pack_3 rfl (lv_at hl 0 rfl) ?_
  refine lv_iload_n hx hb d_Law_pack_4 rfl (lv_at hl 1 rfl) ?_
  refine lv_lload_n hx hb d_Law_pack_5 rfl (lv_at hl 2 rfl) ?_
  obtain ⟨q0, L0, t0, a0_, b0_, c0_, d0_, htb0⟩ := tab_cons htb
  refine q_catch (X := X2) (rest := [.int (0 : Int32), .ref ou]) S (hM _) (cw_vT hts tb_5_30 k_Cor_pack rfl rfl ⟨by decide, by decide⟩) hw hw.tl hN (TW.call own_2) (fun U hU hW => hZ.beyond.moved own_2 hW (fun q _ => by rw [hU])) 70 (cons_at hc) rfl rfl hl.1 rfl (Nat.le_of_ble_eq_true rfl) d_Law_pack_6 ⟨Nat.le_of_ble_eq_true rfl, Nat.le_of_ble_eq_true rfl⟩ [] q0 L0 (by rw [t0]; rfl) (fun z hz => absurd hz List.not_mem_nil) (tab_cov a0_ b0_ rfl) (by rw [d0_]; decide) c0_ (by rw [d0_]; exact tb_3_67) (hZ.beyond.cast _) (fun a9 H hold hw => ?_)
  refine lv_astore (lv' := [(5, .ref a9), (0, .ref co), (1, .int a0), (2, .long a1), (4, .ref ou)]) hx hb d_Law_pack_14 hl (by decide) rfl (fun ls hl => ?_)
  refine lv_iconst (v := 1) hx hb d_Law_pack_16 (by decide) ?_
  exact qx_ret S hr hlk hw.2.2.2.1 hold d_Law_pack_17
