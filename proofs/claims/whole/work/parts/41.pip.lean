/-! Pipeline: two instructions and a word that was fetched, before memory. -/
def PW (ad : Nat → Nat) (ti : Nat → ClassId) (u : MT) (pi a b ex de : Nat) (xi xb di db fi fb : Int32) : va_W :=
  MWt ad ti u ++ [(pi, .inr (6, [.ref (ad 0), .ref a, .ref b, .int fi, .int fb])), (ex, insD xi xb), (de, insD di db)]
def PF (i b : Int32) (w : Nat → Int32) : Prop := i = -1 ∨ ∃ k, k < 4096 ∧ i = nI k ∧ b = w k
def pSq (di fi : Int32) (k : Nat) (x : Int32) : Int32 := if di = nI k then -1 else if fi = nI k then -1 else x
theorem PF.sq1 {di db fi : Int32} {w w' : Nat → Int32} {k : Nat} (h : PF di db w) (hw : ∀ j, j ≠ k → w' j = w j) : PF (pSq di fi k di) db w' := by
  unfold pSq
  split
  · exact Or.inl rfl
  · rename_i h1
    split
    · exact Or.inl rfl
    · rcases h with h | ⟨j, hj, e1, e2⟩
      · exact Or.inl h
      · exact Or.inr ⟨j, hj, e1, by rw [hw j (fun q => h1 (by rw [e1, q]))]; exact e2⟩
theorem PF.sq2 {di fb fi : Int32} {w w' : Nat → Int32} {k : Nat} (h : PF fi fb w) (hw : ∀ j, j ≠ k → w' j = w j) : PF (pSq di fi k fi) fb w' := by
  unfold pSq
  split
  · exact Or.inl rfl
  · split
    · exact Or.inl rfl
    · rename_i h1
      rcases h with h | ⟨j, hj, e1, e2⟩
      · exact Or.inl h
      · exact Or.inr ⟨j, hj, e1, by rw [hw j (fun q => h1 (by rw [e1, q]))]; exact e2⟩
theorem PF.at {di db : Int32} {w : Nat → Int32} {k : Nat} (h : PF di db w) (hk : k < 4096) (e : di = nI k) : db = w k := by
  rcases h with h | ⟨j, hj, e1, e2⟩
  · exact absurd (e.symm.trans h) (nI_neg (by omega))
  · have : j = k := nI_inj (by omega) (by omega) (e1.symm.trans e)
    rw [← this]; exact e2
theorem lt_nge2 {c k : Nat} (hk : k < 2 ^ 31) (h : ¬ nI c ≤ nI k) : k < c := by
  rcases Nat.lt_or_ge k c with h1 | h1
  · exact h1
  · exact absurd (nI_le h1 hk) h
theorem swp_at {X : va_W} {x a b : Nat × va_E} (k : Nat) (q : Nat × va_E) (hk : (X ++ [x, b, a])[k]? = some q) : (X ++ [x, a, b])[if k = X.length + 1 then X.length + 2 else if k = X.length + 2 then X.length + 1 else k]? = some q := by
  by_cases h1 : k < X.length
  · rw [List.getElem?_append_left h1] at hk
    rw [if_neg (by omega), if_neg (by omega), List.getElem?_append_left h1]; exact hk
  · obtain ⟨j, rfl⟩ : ∃ j, k = X.length + j := ⟨k - X.length, by omega⟩
    rw [List.getElem?_append_right (by omega), Nat.add_sub_cancel_left] at hk
    match j, hk with
    | 0, hk => rw [if_neg (by omega), if_neg (by omega), List.getElem?_append_right (by omega)]; simpa using hk
    | 1, hk => rw [if_pos rfl, List.getElem?_append_right (by omega), Nat.add_sub_cancel_left]; simpa using hk
    | 2, hk => rw [if_neg (by omega), if_pos rfl, List.getElem?_append_right (by omega), Nat.add_sub_cancel_left]; simpa using hk
    | j + 3, hk => cases hk
theorem swp_D {A : Nat → Prop} {X : va_W} {x a b : Nat × va_E} (h : va_D A (X ++ [x, a, b])) : va_D A (X ++ [x, b, a]) := by
  refine va_D.by h (fun k => if k = X.length + 1 then X.length + 2 else if k = X.length + 2 then X.length + 1 else k) (fun k q hk => swp_at k q hk) (fun i j _ _ e => ?_)
  split at e <;> split at e <;> (try split at e) <;> (try split at e) <;> omega
theorem Lv.swp {D : va_G} {cl : List vw_C} {tys : List (ClassId × FieldType)} {A : Nat → Prop} {H0 H : Heap} {s : State} {locs : List Loc} {X : va_W} {x a b : Nat × va_E} (h : Lv D cl tys A H0 (X ++ [x, a, b]) s H locs) : Lv D cl tys A H0 (X ++ [x, b, a]) s H locs :=
  ⟨va_P.by h.1 _ (fun k q hk => swp_at k q hk), h.2.1, swp_D h.2.2.1, h.2.2.2⟩
theorem p_readWord (l : Launch) (D : va_G) (ti : Nat → ClassId) (ad : Nat → Nat) (u : MT) (w g : Nat → Int32) (hM : MIt u w g) (i : Nat) (hi : i < 4096) (Y : va_W) : Cg l y_Mem_readWord (wl y_Mem_readWord b_Mem_readWord 2 (some .int)) (rmL 2) D clz (ty4 ti) [.ref (ad 0), .int (nI i)] (MWt ad ti u ++ Y) (fun z : MT => some (.int (w i))) (fun z => MWt ad ti z ++ Y) (fun z => MIt z w g) := (c_Mem_readWord l D ti ad u.1 u.2.1 u.2.2.1 u.2.2.2.1 u.2.2.2.2.1 u.2.2.2.2.2.1 u.2.2.2.2.2.2.1 u.2.2.2.2.2.2.2.1 u.2.2.2.2.2.2.2.2.1 u.2.2.2.2.2.2.2.2.2 w g hM i hi).front (fun _ => rfl) Y
theorem p_readTag (l : Launch) (D : va_G) (ti : Nat → ClassId) (ad : Nat → Nat) (u : MT) (w g : Nat → Int32) (hM : MIt u w g) (i : Nat) (hi : i < 4096) (Y : va_W) : Cg l y_Mem_readTag (wl y_Mem_readTag b_Mem_readTag 2 (some .boolean)) (rmL 2) D clz (ty4 ti) [.ref (ad 0), .int (nI i)] (MWt ad ti u ++ Y) (fun z : MT => some (.int (jb (gTag g i)))) (fun z => MWt ad ti z ++ Y) (fun z => MIt z w g) := (c_Mem_readTag l D ti ad u.1 u.2.1 u.2.2.1 u.2.2.2.1 u.2.2.2.2.1 u.2.2.2.2.2.1 u.2.2.2.2.2.2.1 u.2.2.2.2.2.2.2.1 u.2.2.2.2.2.2.2.2.1 u.2.2.2.2.2.2.2.2.2 w g hM i hi).front (fun _ => rfl) Y
theorem p_writeWord (l : Launch) (D : va_G) (ti : Nat → ClassId) (ad : Nat → Nat) (u : MT) (w g : Nat → Int32) (hM : MIt u w g) (i : Nat) (hi : i < 4096) (x : Int32) (Y : va_W) : Cg l y_Mem_writeWord (wl y_Mem_writeWord b_Mem_writeWord 4 none) (rmL 2) D clz (ty4 ti) [.ref (ad 0), .int (nI i), .int x] (MWt ad ti u ++ Y) (fun z : MT => none) (fun z => MWt ad ti z ++ Y) (fun z => MIt z (upd w i x) (gOff g i)) := (c_Mem_writeWord l D ti ad u.1 u.2.1 u.2.2.1 u.2.2.2.1 u.2.2.2.2.1 u.2.2.2.2.2.1 u.2.2.2.2.2.2.1 u.2.2.2.2.2.2.2.1 u.2.2.2.2.2.2.2.2.1 u.2.2.2.2.2.2.2.2.2 w g hM i hi x).front (fun _ => rfl) Y
theorem p_writeTag (l : Launch) (D : va_G) (ti : Nat → ClassId) (ad : Nat → Nat) (u : MT) (w g : Nat → Int32) (hM : MIt u w g) (i : Nat) (hi : i < 4096) (Y : va_W) : Cg l y_Mem_writeTag (wl y_Mem_writeTag b_Mem_writeTag 3 none) (rmL 2) D clz (ty4 ti) [.ref (ad 0), .int (nI i)] (MWt ad ti u ++ Y) (fun z : MT => none) (fun z => MWt ad ti z ++ Y) (fun z => MIt z w (gOn g i)) := (c_Mem_writeTag l D ti ad u.1 u.2.1 u.2.2.1 u.2.2.2.1 u.2.2.2.2.1 u.2.2.2.2.2.1 u.2.2.2.2.2.2.1 u.2.2.2.2.2.2.2.1 u.2.2.2.2.2.2.2.2.1 u.2.2.2.2.2.2.2.2.2 w g hM i hi).front (fun _ => rfl) Y
theorem p_seenWord (l : Launch) (D : va_G) (ti : Nat → ClassId) (ad : Nat → Nat) (u : MT) (w g : Nat → Int32) (hM : MIt u w g) (i : Nat) (hi : i < 4096) (Y : va_W) : Cr l y_Mem_seenWord (wl y_Mem_seenWord b_Mem_seenWord 3 (some .int)) (rmL 1) D clz (ty4 ti) [.ref (ad 0), .int (nI i)] (MWt ad ti u ++ Y) (some (.int (w i))) := (c_Mem_seenWord l D ti ad u.1 u.2.1 u.2.2.1 u.2.2.2.1 u.2.2.2.2.1 u.2.2.2.2.2.1 u.2.2.2.2.2.2.1 u.2.2.2.2.2.2.2.1 u.2.2.2.2.2.2.2.2.1 u.2.2.2.2.2.2.2.2.2 w g hM i hi).front Y
theorem p_seenTag (l : Launch) (D : va_G) (ti : Nat → ClassId) (ad : Nat → Nat) (u : MT) (w g : Nat → Int32) (hM : MIt u w g) (i : Nat) (hi : i < 4096) (Y : va_W) : Cr l y_Mem_seenTag (wl y_Mem_seenTag b_Mem_seenTag 2 (some .boolean)) (rmL 2) D clz (ty4 ti) [.ref (ad 0), .int (nI i)] (MWt ad ti u ++ Y) (some (.int (jb (gTag g i)))) := (c_Mem_seenTag l D ti ad u.1 u.2.1 u.2.2.1 u.2.2.2.1 u.2.2.2.2.1 u.2.2.2.2.2.1 u.2.2.2.2.2.2.1 u.2.2.2.2.2.2.2.1 u.2.2.2.2.2.2.2.2.1 u.2.2.2.2.2.2.2.2.2 w g hM i hi).front Y
theorem p_tagsHeld (l : Launch) (D : va_G) (ti : Nat → ClassId) (ad : Nat → Nat) (u : MT) (w g : Nat → Int32) (hM : MIt u w g) (Y : va_W) : Cr l y_Mem_tagsHeld (wl y_Mem_tagsHeld b_Mem_tagsHeld 3 (some .int)) (rmL 2) D clz (ty4 ti) [.ref (ad 0)] (MWt ad ti u ++ Y) (some (.int (gSum g 512))) := (c_Mem_tagsHeld l D ti ad u.1 u.2.1 u.2.2.1 u.2.2.2.1 u.2.2.2.2.1 u.2.2.2.2.2.1 u.2.2.2.2.2.2.1 u.2.2.2.2.2.2.2.1 u.2.2.2.2.2.2.2.2.1 u.2.2.2.2.2.2.2.2.2 w g hM).front Y
theorem p_wrongs (l : Launch) (D : va_G) (ti : Nat → ClassId) (ad : Nat → Nat) (u : MT) (w g : Nat → Int32) (hM : MIt u w g) (Y : va_W) : Cr l y_Mem_wrongs (wl y_Mem_wrongs b_Mem_wrongs 4 (some .int)) (rmL 2) D clz (ty4 ti) [.ref (ad 0)] (MWt ad ti u ++ Y) (some (.int 0)) := (c_Mem_wrongs l D ti ad u.1 u.2.1 u.2.2.1 u.2.2.2.1 u.2.2.2.2.1 u.2.2.2.2.2.1 u.2.2.2.2.2.2.1 u.2.2.2.2.2.2.2.1 u.2.2.2.2.2.2.2.2.1 u.2.2.2.2.2.2.2.2.2 w g hM).front Y
set_option maxHeartbeats 4000000 in
set_option maxRecDepth 100000 in
theorem c_Pip_fetch (l : Launch) (D : va_G) (ti : Nat → ClassId) (ad : Nat → Nat) (u : MT) (pi ex de : Nat) (xi xb di db fi fb : Int32) (w g : Nat → Int32) (hM : MIt u w g) (k : Nat) (hk : k < 8192) : Cg l y_Pip_fetch (wl y_Pip_fetch b_Pip_fetch 2 none) (rmL 3) D clz (ty4 ti) [.ref pi, .int (nI k)] (PW ad ti u pi ex de ex de xi xb di db fi fb) (fun z : MT × Int32 × Int32 => none) (fun z => PW ad ti z.1 pi ex de ex de xi xb di db z.2.1 z.2.2) (fun z => MIt z.1 w g ∧ PF z.2.1 z.2.2 w) := by
  refine Cg.ofF (plainFor_of_name (by decide)) (Nat.le_of_ble_eq_true rfl) ?_
  intro p9 e9 s9 m9 b9 me9 c9 ls S hr hlk hl hw
  obtain ⟨hx, hb, hml, hown, hts⟩ := id S
  have hl : lv_has ls 2 [(0, .ref pi), (1, .int (nI k))] := hl
  refine lv_aload_n hx hb d_Pip_fetch_0 rfl (lv_at hl 0 rfl) ?_
  refine lv_iload_n hx hb d_Pip_fetch_1 rfl (lv_at hl 1 rfl) ?_
  refine lv_sipush (v := 4096) hx hb d_Pip_fetch_2 (by decide) ?_
  refine lv_icmp_ge hx hb d_Pip_fetch_5 rfl (fun h5 => ?_) (fun h5 => ?_)
  · refine lv_iconst (v := -1) hx hb d_Pip_fetch_12 (by decide) ?_
    refine q_put (v := .int (-1 : Int32)) S hw ly_Pip t_Pip t_Pip_ok n_Pip 13 rfl rfl 3 (by decide) tb_1_193 rfl rfl rfl rfl (Nat.le_of_ble_eq_true rfl) d_Pip_fetch_13 (fun H locs hw => ?_)
    have hw : Lv _ _ _ _ _ (PW ad ti u pi ex de ex de xi xb di db (-1 : Int32) fb) _ _ _ := hw
    refine lv_aload_n hx hb d_Pip_fetch_16 rfl (lv_at hl 0 rfl) ?_
    refine q_get S hw ly_Pip 13 rfl rfl 3 (by decide) tb_1_193 rfl rfl d_Pip_fetch_17 ?_
    refine lv_iconst (v := -1) hx hb d_Pip_fetch_20 (by decide) ?_
    refine lv_icmp_eq hx hb d_Pip_fetch_21 rfl (fun _ => ?_) (fun h => absurd h (by decide))
    exact hw.rv S hr hlk d_Pip_fetch_36 (u, (-1 : Int32), fb) (rfl) (⟨hM, Or.inl rfl⟩) (rfl)
  · have hk4 := lt_nge2 (c := 4096) (by omega) h5
    refine lv_iload_n hx hb d_Pip_fetch_8 rfl (lv_at hl 1 rfl) ?_
    refine lv_goto hx hb d_Pip_fetch_9 rfl ?_
    refine q_put (v := .int (nI k)) S hw ly_Pip t_Pip t_Pip_ok n_Pip 13 rfl rfl 3 (by decide) tb_1_193 rfl rfl rfl rfl (Nat.le_of_ble_eq_true rfl) d_Pip_fetch_13 (fun H locs hw => ?_)
    have hw : Lv _ _ _ _ _ (PW ad ti u pi ex de ex de xi xb di db (nI k) fb) _ _ _ := hw
    refine lv_aload_n hx hb d_Pip_fetch_16 rfl (lv_at hl 0 rfl) ?_
    refine q_get S hw ly_Pip 13 rfl rfl 3 (by decide) tb_1_193 rfl rfl d_Pip_fetch_17 ?_
    refine lv_iconst (v := -1) hx hb d_Pip_fetch_20 (by decide) ?_
    refine lv_icmp_eq hx hb d_Pip_fetch_21 rfl (fun h => absurd h (nI_neg (by omega))) (fun _ => ?_)
    refine lv_aload_n hx hb d_Pip_fetch_24 rfl (lv_at hl 0 rfl) ?_
    refine lv_aload_n hx hb d_Pip_fetch_25 rfl (lv_at hl 0 rfl) ?_
    refine q_get S hw ly_Pip 13 rfl rfl 0 (by decide) tb_1_190 rfl rfl d_Pip_fetch_26 ?_
    refine lv_iload_n hx hb d_Pip_fetch_29 rfl (lv_at hl 1 rfl) ?_
    refine q_cg (q_runV (As := [.int (nI k)]) (rest := [.ref pi]) S (p_readWord l D ti ad u w g hM k (by first | assumption | omega) _) (cw_v hts tb_3_194 k_Mem_readWord rfl rfl ⟨by decide, by decide⟩) hw 0 rfl rfl rfl hl.1 rfl (Nat.le_of_ble_eq_true rfl) d_Pip_fetch_30 ⟨Nat.zero_le _, Nat.zero_le _⟩) hw (fun z hD => qD_same hD rfl) (fun u1 H locs hM2 hw => ?_)
    refine W.eq (g2 := F0 m9 33 ls [.int (w k), .ref pi]) rfl ?_
    have hw : Lv _ _ _ _ _ (PW ad ti u1 pi ex de ex de xi xb di db (nI k) fb) _ _ _ := hw
    have hM2 : MIt u1 w g := hM2
    refine q_put (v := .int (w k)) S hw ly_Pip t_Pip t_Pip_ok n_Pip 13 rfl rfl 4 (by decide) tb_1_194 rfl rfl rfl rfl (Nat.le_of_ble_eq_true rfl) d_Pip_fetch_33 (fun H locs hw => ?_)
    have hw : Lv _ _ _ _ _ (PW ad ti u1 pi ex de ex de xi xb di db (nI k) (w k)) _ _ _ := hw
    exact hw.rv S hr hlk d_Pip_fetch_36 (u1, (nI k), (w k)) (rfl) (⟨hM2, Or.inr ⟨k, hk4, rfl, rfl⟩⟩) (rfl)
set_option maxHeartbeats 4000000 in
set_option maxRecDepth 100000 in
theorem c_Pip_fetch2 (l : Launch) (D : va_G) (ti : Nat → ClassId) (ad : Nat → Nat) (u : MT) (pi ex de : Nat) (xi xb di db fi fb : Int32) (w g : Nat → Int32) (hM : MIt u w g) (k : Nat) (hk : k < 8192) : Cg l y_Pip_fetch (wl y_Pip_fetch b_Pip_fetch 2 none) (rmL 3) D clz (ty4 ti) [.ref pi, .int (nI k)] (PW ad ti u pi de ex ex de xi xb di db fi fb) (fun z : MT × Int32 × Int32 => none) (fun z => PW ad ti z.1 pi de ex ex de xi xb di db z.2.1 z.2.2) (fun z => MIt z.1 w g ∧ PF z.2.1 z.2.2 w) := by
  refine Cg.ofF (plainFor_of_name (by decide)) (Nat.le_of_ble_eq_true rfl) ?_
  intro p9 e9 s9 m9 b9 me9 c9 ls S hr hlk hl hw
  obtain ⟨hx, hb, hml, hown, hts⟩ := id S
  have hl : lv_has ls 2 [(0, .ref pi), (1, .int (nI k))] := hl
  refine lv_aload_n hx hb d_Pip_fetch_0 rfl (lv_at hl 0 rfl) ?_
  refine lv_iload_n hx hb d_Pip_fetch_1 rfl (lv_at hl 1 rfl) ?_
  refine lv_sipush (v := 4096) hx hb d_Pip_fetch_2 (by decide) ?_
  refine lv_icmp_ge hx hb d_Pip_fetch_5 rfl (fun h5 => ?_) (fun h5 => ?_)
  · refine lv_iconst (v := -1) hx hb d_Pip_fetch_12 (by decide) ?_
    refine q_put (v := .int (-1 : Int32)) S hw ly_Pip t_Pip t_Pip_ok n_Pip 13 rfl rfl 3 (by decide) tb_1_193 rfl rfl rfl rfl (Nat.le_of_ble_eq_true rfl) d_Pip_fetch_13 (fun H locs hw => ?_)
    have hw : Lv _ _ _ _ _ (PW ad ti u pi de ex ex de xi xb di db (-1 : Int32) fb) _ _ _ := hw
    refine lv_aload_n hx hb d_Pip_fetch_16 rfl (lv_at hl 0 rfl) ?_
    refine q_get S hw ly_Pip 13 rfl rfl 3 (by decide) tb_1_193 rfl rfl d_Pip_fetch_17 ?_
    refine lv_iconst (v := -1) hx hb d_Pip_fetch_20 (by decide) ?_
    refine lv_icmp_eq hx hb d_Pip_fetch_21 rfl (fun _ => ?_) (fun h => absurd h (by decide))
    exact hw.rv S hr hlk d_Pip_fetch_36 (u, (-1 : Int32), fb) (rfl) (⟨hM, Or.inl rfl⟩) (rfl)
  · have hk4 := lt_nge2 (c := 4096) (by omega) h5
    refine lv_iload_n hx hb d_Pip_fetch_8 rfl (lv_at hl 1 rfl) ?_
    refine lv_goto hx hb d_Pip_fetch_9 rfl ?_
    refine q_put (v := .int (nI k)) S hw ly_Pip t_Pip t_Pip_ok n_Pip 13 rfl rfl 3 (by decide) tb_1_193 rfl rfl rfl rfl (Nat.le_of_ble_eq_true rfl) d_Pip_fetch_13 (fun H locs hw => ?_)
    have hw : Lv _ _ _ _ _ (PW ad ti u pi de ex ex de xi xb di db (nI k) fb) _ _ _ := hw
    refine lv_aload_n hx hb d_Pip_fetch_16 rfl (lv_at hl 0 rfl) ?_
    refine q_get S hw ly_Pip 13 rfl rfl 3 (by decide) tb_1_193 rfl rfl d_Pip_fetch_17 ?_
    refine lv_iconst (v := -1) hx hb d_Pip_fetch_20 (by decide) ?_
    refine lv_icmp_eq hx hb d_Pip_fetch_21 rfl (fun h => absurd h (nI_neg (by omega))) (fun _ => ?_)
    refine lv_aload_n hx hb d_Pip_fetch_24 rfl (lv_at hl 0 rfl) ?_
    refine lv_aload_n hx hb d_Pip_fetch_25 rfl (lv_at hl 0 rfl) ?_
    refine q_get S hw ly_Pip 13 rfl rfl 0 (by decide) tb_1_190 rfl rfl d_Pip_fetch_26 ?_
    refine lv_iload_n hx hb d_Pip_fetch_29 rfl (lv_at hl 1 rfl) ?_
    refine q_cg (q_runV (As := [.int (nI k)]) (rest := [.ref pi]) S (p_readWord l D ti ad u w g hM k (by first | assumption | omega) _) (cw_v hts tb_3_194 k_Mem_readWord rfl rfl ⟨by decide, by decide⟩) hw 0 rfl rfl rfl hl.1 rfl (Nat.le_of_ble_eq_true rfl) d_Pip_fetch_30 ⟨Nat.zero_le _, Nat.zero_le _⟩) hw (fun z hD => qD_same hD rfl) (fun u3 H locs hM4 hw => ?_)
    refine W.eq (g2 := F0 m9 33 ls [.int (w k), .ref pi]) rfl ?_
    have hw : Lv _ _ _ _ _ (PW ad ti u3 pi de ex ex de xi xb di db (nI k) fb) _ _ _ := hw
    have hM4 : MIt u3 w g := hM4
    refine q_put (v := .int (w k)) S hw ly_Pip t_Pip t_Pip_ok n_Pip 13 rfl rfl 4 (by decide) tb_1_194 rfl rfl rfl rfl (Nat.le_of_ble_eq_true rfl) d_Pip_fetch_33 (fun H locs hw => ?_)
    have hw : Lv _ _ _ _ _ (PW ad ti u3 pi de ex ex de xi xb di db (nI k) (w k)) _ _ _ := hw
    exact hw.rv S hr hlk d_Pip_fetch_36 (u3, (nI k), (w k)) (rfl) (⟨hM4, Or.inr ⟨k, hk4, rfl, rfl⟩⟩) (rfl)
set_option maxHeartbeats 4000000 in
set_option maxRecDepth 100000 in
theorem c_Pip_advance (l : Launch) (D : va_G) (ti : Nat → ClassId) (ad : Nat → Nat) (u : MT) (pi ex de : Nat) (xi xb di db fi fb : Int32) (w g : Nat → Int32) (hM : MIt u w g) (hD : PF di db w) (hF : PF fi fb w) (k : Nat) (hk : k < 4096) : Cg l y_Pip_advance (wl y_Pip_advance b_Pip_advance 3 (some (.object "CheriCore$Instruction"))) (rmL 4) D clz (ty4 ti) [.ref pi, .int (nI k)] (PW ad ti u pi ex de ex de xi xb di db fi fb) (fun z : MT × Int32 × Int32 × Int32 × Int32 => some (.ref de)) (fun z => PW ad ti z.1 pi de ex de ex (nI k) (w k) z.2.1 z.2.2.1 z.2.2.2.1 z.2.2.2.2) (fun z => MIt z.1 w g ∧ PF z.2.1 z.2.2.1 w ∧ PF z.2.2.2.1 z.2.2.2.2 w) := by
  refine Cg.ofF (plainFor_of_name (by decide)) (Nat.le_of_ble_eq_true rfl) ?_
  intro p9 e9 s9 m9 b9 me9 c9 ls S hr hlk hl hw
  obtain ⟨hx, hb, hml, hown, hts⟩ := id S
  have hl : lv_has ls 3 [(0, .ref pi), (1, .int (nI k))] := hl
  refine lv_aload_n hx hb d_Pip_advance_0 rfl (lv_at hl 0 rfl) ?_
  refine q_get S hw ly_Pip 13 rfl rfl 2 (by decide) tb_1_192 rfl rfl d_Pip_advance_1 ?_
  refine q_get S hw ly_Ins 15 rfl rfl 0 (by decide) tb_1_146 rfl rfl d_Pip_advance_4 ?_
  refine q_joinG (Z := MT × Int32 × Int32) (pcJ := 34) (st := []) (nL := 3) (fun _ => [(0, .ref pi), (1, .int (nI k))]) (fun z => (PW ad ti z.1 pi ex de ex de xi xb (nI k) (w k) z.2.1 z.2.2)) (fun z => MIt z.1 w g ∧ PF z.2.1 z.2.2 w) hw (fun z H locs ls hI34 hw hl => ?_) (fun J34 => ?_)
  · obtain ⟨u1, fi1, fb1⟩ := z
    obtain ⟨hM1, hF1⟩ : MIt u1 w g ∧ PF fi1 fb1 w := hI34
    have hw : Lv _ _ _ _ _ (PW ad ti u1 pi ex de ex de xi xb (nI k) (w k) fi1 fb1) _ _ _ := hw
    have hl : lv_has ls 3 [(0, .ref pi), (1, .int (nI k))] := hl
    refine lv_aload_n hx hb d_Pip_advance_34 rfl (lv_at hl 0 rfl) ?_
    refine q_get S hw ly_Pip 13 rfl rfl 1 (by decide) tb_1_191 rfl rfl d_Pip_advance_35 ?_
    refine lv_astore_n (lv' := [(2, .ref ex), (0, .ref pi), (1, .int (nI k))]) hx hb d_Pip_advance_38 rfl hl (by decide) rfl (fun ls hl => ?_)
    refine lv_aload_n hx hb d_Pip_advance_39 rfl (lv_at hl 1 rfl) ?_
    refine lv_aload_n hx hb d_Pip_advance_40 rfl (lv_at hl 1 rfl) ?_
    refine q_get S hw ly_Pip 13 rfl rfl 2 (by decide) tb_1_192 rfl rfl d_Pip_advance_41 ?_
    refine q_put (v := .ref de) S hw ly_Pip t_Pip t_Pip_ok n_Pip 13 rfl rfl 1 (by decide) tb_1_191 rfl rfl rfl rfl (Nat.le_of_ble_eq_true rfl) d_Pip_advance_44 (fun H locs hw => ?_)
    have hw : Lv _ _ _ _ _ (PW ad ti u1 pi de de ex de xi xb (nI k) (w k) fi1 fb1) _ _ _ := hw
    refine lv_aload_n hx hb d_Pip_advance_47 rfl (lv_at hl 1 rfl) ?_
    refine lv_aload_n hx hb d_Pip_advance_48 rfl (lv_at hl 0 rfl) ?_
    refine q_put (v := .ref ex) S hw ly_Pip t_Pip t_Pip_ok n_Pip 13 rfl rfl 2 (by decide) tb_1_192 rfl rfl rfl rfl (Nat.le_of_ble_eq_true rfl) d_Pip_advance_49 (fun H locs hw => ?_)
    have hw : Lv _ _ _ _ _ (PW ad ti u1 pi de ex ex de xi xb (nI k) (w k) fi1 fb1) _ _ _ := hw
    refine lv_aload_n hx hb d_Pip_advance_52 rfl (lv_at hl 1 rfl) ?_
    refine q_get S hw ly_Pip 13 rfl rfl 2 (by decide) tb_1_192 rfl rfl d_Pip_advance_53 ?_
    refine lv_aload_n hx hb d_Pip_advance_56 rfl (lv_at hl 1 rfl) ?_
    refine q_get S hw ly_Pip 13 rfl rfl 3 (by decide) tb_1_193 rfl rfl d_Pip_advance_57 ?_
    refine lv_aload_n hx hb d_Pip_advance_60 rfl (lv_at hl 1 rfl) ?_
    refine q_get S hw ly_Pip 13 rfl rfl 4 (by decide) tb_1_194 rfl rfl d_Pip_advance_61 ?_
    refine q_cg (q_runV (As := [.int fi1, .int fb1]) (rest := []) S (Cg.one (c_Ins_decode l D (ty4 ti) ex xi xb (nI (nOp xb)) (nI (nRd xb)) (nI (nFn xb)) (nI (nR1 xb)) (nI (nR2 xb)) (nI (nNb xb)) (iIm xb) fi1 fb1) 14 rfl) (cw_v hts tb_3_195 k_Ins_decode rfl rfl ⟨by decide, by decide⟩) hw 14 rfl rfl rfl hl.1 rfl (Nat.le_of_ble_eq_true rfl) d_Pip_advance_64 ⟨Nat.zero_le _, Nat.zero_le _⟩) hw (fun z hD => hD.set rfl) (fun z9 H locs hp9 hw => ?_)
    refine W.eq (g2 := F0 m9 67 ls []) rfl ?_
    have hw : Lv _ _ _ _ _ (PW ad ti u1 pi de ex ex de fi1 fb1 (nI k) (w k) fi1 fb1) _ _ _ := hw
    refine lv_aload_n hx hb d_Pip_advance_67 rfl (lv_at hl 1 rfl) ?_
    refine lv_iload_n hx hb d_Pip_advance_68 rfl (lv_at hl 2 rfl) ?_
    refine lv_iconst (v := 2) hx hb d_Pip_advance_69 (by decide) ?_
    refine lv_iadd hx hb d_Pip_advance_70 ?_
    refine q_topi (z := nI (k + 2)) (nI_add k 2) ?_
    refine q_cg (q_runV (As := [.int (nI (k + 2))]) (rest := []) S (c_Pip_fetch2 l D ti ad u1 pi ex de fi1 fb1 (nI k) (w k) fi1 fb1 w g hM1 (k + 2) (by first | assumption | omega)) (cw_v hts tb_3_204 k_Pip_fetch rfl rfl ⟨by decide, by decide⟩) hw 13 rfl rfl rfl hl.1 rfl (Nat.le_of_ble_eq_true rfl) d_Pip_advance_71 ⟨Nat.zero_le _, Nat.zero_le _⟩) hw (fun z hD => qD_same hD rfl) (fun z5 H locs hM6 hw => ?_)
    obtain ⟨u8, fi9, fb10⟩ := z5
    obtain ⟨hM6, hF7⟩ : MIt u8 w g ∧ PF fi9 fb10 w := hM6
    refine W.eq (g2 := F0 m9 74 ls []) rfl ?_
    have hw : Lv _ _ _ _ _ (PW ad ti u8 pi de ex ex de fi1 fb1 (nI k) (w k) fi9 fb10) _ _ _ := hw
    refine lv_aload_n hx hb d_Pip_advance_74 rfl (lv_at hl 1 rfl) ?_
    refine q_get S hw ly_Pip 13 rfl rfl 1 (by decide) tb_1_191 rfl rfl d_Pip_advance_75 ?_
    exact hw.swp.ra S hr hlk d_Pip_advance_78 (u8, fi1, fb1, fi9, fb10) rfl ⟨hM6, hF1, hF7⟩ rfl
  · refine lv_iload_n hx hb d_Pip_advance_7 rfl (lv_at hl 1 rfl) ?_
    refine lv_icmp_eq hx hb d_Pip_advance_8 rfl (fun h8 => ?_) (fun h8 => ?_)
    · exact J34 (u, fi, fb) _ _ _ (⟨hM, hF⟩) (hw.same (by rw [h8, hD.at hk h8])) (lv_sub (l' := [(0, .ref pi), (1, .int (nI k))]) hl [0, 1] rfl)
    · refine lv_aload_n hx hb d_Pip_advance_11 rfl (lv_at hl 0 rfl) ?_
      refine q_get S hw ly_Pip 13 rfl rfl 2 (by decide) tb_1_192 rfl rfl d_Pip_advance_12 ?_
      refine lv_iload_n hx hb d_Pip_advance_15 rfl (lv_at hl 1 rfl) ?_
      refine lv_aload_n hx hb d_Pip_advance_16 rfl (lv_at hl 0 rfl) ?_
      refine q_get S hw ly_Pip 13 rfl rfl 0 (by decide) tb_1_190 rfl rfl d_Pip_advance_17 ?_
      refine lv_iload_n hx hb d_Pip_advance_20 rfl (lv_at hl 1 rfl) ?_
      refine q_cg (q_runV (As := [.int (nI k)]) (rest := [.int (nI k), .ref de]) S (p_readWord l D ti ad u w g hM k (by first | assumption | omega) _) (cw_v hts tb_3_194 k_Mem_readWord rfl rfl ⟨by decide, by decide⟩) hw 0 rfl rfl rfl hl.1 rfl (Nat.le_of_ble_eq_true rfl) d_Pip_advance_21 ⟨Nat.zero_le _, Nat.zero_le _⟩) hw (fun z hD => qD_same hD rfl) (fun u11 H locs hM12 hw => ?_)
      refine W.eq (g2 := F0 m9 24 ls [.int (w k), .int (nI k), .ref de]) rfl ?_
      have hw : Lv _ _ _ _ _ (PW ad ti u11 pi ex de ex de xi xb di db fi fb) _ _ _ := hw
      have hM12 : MIt u11 w g := hM12
      refine q_cg (q_runV (As := [.int (nI k), .int (w k)]) (rest := []) S (Cg.one (c_Ins_decode l D (ty4 ti) de di db (nI (nOp db)) (nI (nRd db)) (nI (nFn db)) (nI (nR1 db)) (nI (nR2 db)) (nI (nNb db)) (iIm db) (nI k) (w k)) 15 rfl) (cw_v hts tb_3_195 k_Ins_decode rfl rfl ⟨by decide, by decide⟩) hw 15 rfl rfl rfl hl.1 rfl (Nat.le_of_ble_eq_true rfl) d_Pip_advance_24 ⟨Nat.zero_le _, Nat.zero_le _⟩) hw (fun z hD => hD.set rfl) (fun z9 H locs hp9 hw => ?_)
      refine W.eq (g2 := F0 m9 27 ls []) rfl ?_
      have hw : Lv _ _ _ _ _ (PW ad ti u11 pi ex de ex de xi xb (nI k) (w k) fi fb) _ _ _ := hw
      refine lv_aload_n hx hb d_Pip_advance_27 rfl (lv_at hl 0 rfl) ?_
      refine lv_iload_n hx hb d_Pip_advance_28 rfl (lv_at hl 1 rfl) ?_
      refine lv_iconst (v := 1) hx hb d_Pip_advance_29 (by decide) ?_
      refine lv_iadd hx hb d_Pip_advance_30 ?_
      refine q_topi (z := nI (k + 1)) (nI_add k 1) ?_
      refine q_cg (q_runV (As := [.int (nI (k + 1))]) (rest := []) S (c_Pip_fetch l D ti ad u11 pi ex de xi xb (nI k) (w k) fi fb w g hM12 (k + 1) (by first | assumption | omega)) (cw_v hts tb_3_204 k_Pip_fetch rfl rfl ⟨by decide, by decide⟩) hw 13 rfl rfl rfl hl.1 rfl (Nat.le_of_ble_eq_true rfl) d_Pip_advance_31 ⟨Nat.zero_le _, Nat.zero_le _⟩) hw (fun z hD => qD_same hD rfl) (fun z13 H locs hM14 hw => ?_)
      obtain ⟨u16, fi17, fb18⟩ := z13
      obtain ⟨hM14, hF15⟩ : MIt u16 w g ∧ PF fi17 fb18 w := hM14
      refine W.eq (g2 := F0 m9 34 ls []) rfl ?_
      have hw : Lv _ _ _ _ _ (PW ad ti u16 pi ex de ex de xi xb (nI k) (w k) fi17 fb18) _ _ _ := hw
      exact J34 (u16, fi17, fb18) _ _ _ (⟨hM14, hF15⟩) hw (lv_sub (l' := [(0, .ref pi), (1, .int (nI k))]) hl [0, 1] rfl)
set_option maxHeartbeats 4000000 in
set_option maxRecDepth 100000 in
theorem c_Pip_squash (l : Launch) (D : va_G) (ti : Nat → ClassId) (ad : Nat → Nat) (u : MT) (pi ex de : Nat) (xi xb di db fi fb : Int32) (w g : Nat → Int32) (k : Nat) : Cg l y_Pip_squash (wl y_Pip_squash b_Pip_squash 2 none) (rmL 0) D clz (ty4 ti) [.ref pi, .int (nI k)] (PW ad ti u pi ex de ex de xi xb di db fi fb) (fun z : Unit => none) (fun z => PW ad ti u pi ex de ex de xi xb (pSq di fi k di) db (pSq di fi k fi) fb) (fun _ => True) := by
  refine Cg.ofF (plainFor_of_name (by decide)) (Nat.le_of_ble_eq_true rfl) ?_
  intro p9 e9 s9 m9 b9 me9 c9 ls S hr hlk hl hw
  obtain ⟨hx, hb, hml, hown, hts⟩ := id S
  have hl : lv_has ls 2 [(0, .ref pi), (1, .int (nI k))] := hl
  refine lv_aload_n hx hb d_Pip_squash_0 rfl (lv_at hl 0 rfl) ?_
  refine q_get S hw ly_Pip 13 rfl rfl 2 (by decide) tb_1_192 rfl rfl d_Pip_squash_1 ?_
  refine q_get S hw ly_Ins 15 rfl rfl 0 (by decide) tb_1_146 rfl rfl d_Pip_squash_4 ?_
  refine lv_iload_n hx hb d_Pip_squash_7 rfl (lv_at hl 1 rfl) ?_
  refine lv_icmp_eq hx hb d_Pip_squash_8 rfl (fun h8 => ?_) (fun h8 => ?_)
  · refine lv_aload_n hx hb d_Pip_squash_19 rfl (lv_at hl 0 rfl) ?_
    refine q_get S hw ly_Pip 13 rfl rfl 2 (by decide) tb_1_192 rfl rfl d_Pip_squash_20 ?_
    refine lv_iconst (v := -1) hx hb d_Pip_squash_23 (by decide) ?_
    refine q_put (v := .int (-1 : Int32)) S hw ly_Ins t_Ins t_Ins_ok n_Ins 15 rfl rfl 0 (by decide) tb_1_146 rfl rfl rfl rfl (Nat.le_of_ble_eq_true rfl) d_Pip_squash_24 (fun H locs hw => ?_)
    have hw : Lv _ _ _ _ _ (PW ad ti u pi ex de ex de xi xb (-1 : Int32) db fi fb) _ _ _ := hw
    refine lv_aload_n hx hb d_Pip_squash_27 rfl (lv_at hl 0 rfl) ?_
    refine lv_iconst (v := -1) hx hb d_Pip_squash_28 (by decide) ?_
    refine q_put (v := .int (-1 : Int32)) S hw ly_Pip t_Pip t_Pip_ok n_Pip 13 rfl rfl 3 (by decide) tb_1_193 rfl rfl rfl rfl (Nat.le_of_ble_eq_true rfl) d_Pip_squash_29 (fun H locs hw => ?_)
    have hw : Lv _ _ _ _ _ (PW ad ti u pi ex de ex de xi xb (-1 : Int32) db (-1 : Int32) fb) _ _ _ := hw
    exact hw.rv S hr hlk d_Pip_squash_32 () (rfl) (trivial) (by simp only [pSq, if_pos h8])
  · refine lv_aload_n hx hb d_Pip_squash_11 rfl (lv_at hl 0 rfl) ?_
    refine q_get S hw ly_Pip 13 rfl rfl 3 (by decide) tb_1_193 rfl rfl d_Pip_squash_12 ?_
    refine lv_iload_n hx hb d_Pip_squash_15 rfl (lv_at hl 1 rfl) ?_
    refine lv_icmp_ne hx hb d_Pip_squash_16 rfl (fun h16 => ?_) (fun h16 => ?_)
    · exact hw.rv S hr hlk d_Pip_squash_32 () (rfl) (trivial) (by simp only [pSq, if_neg h8, if_neg h16])
    · refine lv_aload_n hx hb d_Pip_squash_19 rfl (lv_at hl 0 rfl) ?_
      refine q_get S hw ly_Pip 13 rfl rfl 2 (by decide) tb_1_192 rfl rfl d_Pip_squash_20 ?_
      refine lv_iconst (v := -1) hx hb d_Pip_squash_23 (by decide) ?_
      refine q_put (v := .int (-1 : Int32)) S hw ly_Ins t_Ins t_Ins_ok n_Ins 15 rfl rfl 0 (by decide) tb_1_146 rfl rfl rfl rfl (Nat.le_of_ble_eq_true rfl) d_Pip_squash_24 (fun H locs hw => ?_)
      have hw : Lv _ _ _ _ _ (PW ad ti u pi ex de ex de xi xb (-1 : Int32) db fi fb) _ _ _ := hw
      refine lv_aload_n hx hb d_Pip_squash_27 rfl (lv_at hl 0 rfl) ?_
      refine lv_iconst (v := -1) hx hb d_Pip_squash_28 (by decide) ?_
      refine q_put (v := .int (-1 : Int32)) S hw ly_Pip t_Pip t_Pip_ok n_Pip 13 rfl rfl 3 (by decide) tb_1_193 rfl rfl rfl rfl (Nat.le_of_ble_eq_true rfl) d_Pip_squash_29 (fun H locs hw => ?_)
      have hw : Lv _ _ _ _ _ (PW ad ti u pi ex de ex de xi xb (-1 : Int32) db (-1 : Int32) fb) _ _ _ := hw
      exact hw.rv S hr hlk d_Pip_squash_32 () (rfl) (trivial) (by simp only [pSq, if_neg h8, if_pos h16])
