/-! CheriCore: its calls. -/
def kIt : Nat → KS → Nat × KS
  | 0, s => (0, s)
  | n + 1, s => if s.ha = true then (0, s) else ((kIt n (kStep s)).1 + 1, (kIt n (kStep s)).2)
def anyR (f : Nat → Bool) : Nat → Bool
  | 0 => false
  | m + 1 => if anyR f m = true then true else f m
theorem anyR_f {f : Nat → Bool} {m : Nat} (h : ∀ j, j < m → f j = false) : anyR f m = false := by
  induction m with
  | zero => rfl
  | succ m ih =>
    have h1 := ih (fun j hj => h j (by omega))
    show (if anyR f m = true then true else f m) = false
    rw [h1, h m (by omega)]
    rfl
theorem anyR_t {f : Nat → Bool} {m j : Nat} (hj : j < m) (h : f j = true) : anyR f m = true := by
  induction m with
  | zero => omega
  | succ m ih =>
    show (if anyR f m = true then true else f m) = true
    by_cases e : j = m
    · subst e
      rw [h]
      split <;> rfl
    · rw [ih (by omega)]
      rfl
def oOut (R : Nat → Cap) (m : Nat) (c : Cap) : Bool := if c.1 = false then false else if anyR (fun j => cWC c (R (40 + j))) m = true then false else true
theorem oOut_39 (R : Nat → Cap) (m : Nat) (c d : Cap) : oOut (va_up R 39 d) m c = oOut R m c := by
  unfold oOut
  have : (fun j => cWC c (va_up R 39 d (40 + j))) = (fun j => cWC c (R (40 + j))) := by
    funext j
    rw [va_up_ne R d (show 40 + j ≠ 39 by omega)]
  rw [this]
def gr1 (R : Nat → Cap) (m : Nat) : Nat → Int32
  | 0 => 0
  | r + 1 => gr1 R m r + (if oOut R m (R r) = false then 0 else 1)
def gr2 (R : Nat → Cap) (m : Nat) (w g : Nat → Int32) : Nat → Int32
  | 0 => gr1 R m 37
  | k + 1 => if gTag g (2 * k) = false then gr2 R m w g k else gr2 R m w g k + (if oOut R m (true, w (2 * k), w (2 * k + 1) ^^^ 1000194) = false then 0 else 1)
def tV (c : Cap) (x : Int32) : Int32 := if x = 0 then (if c.1 = false then 0 else 1) else if x = 1 then c.2.1 else if x = 2 then cTold c.2.2 else if x = 3 then (cbase c.2.2 c.2.1).toInt32 else if x = 4 then cLen (cbase c.2.2 c.2.1) (ctop c.2.2 c.2.1) else if x = 5 then cPerms c.2.2 else cType c.2.2
def cV (ha : Bool) (ca va st tr rc su x : Int32) : Int32 := if x = 0 then (if ha = false then 0 else 1) else if x = 1 then ca else if x = 2 then va else if x = 3 then st else if x = 4 then tr else if x = 5 then rc else su
abbrev up7 (x : Int32) : Prop := x = 0 ∨ x = 1 ∨ x = 2 ∨ x = 3 ∨ x = 4 ∨ x = 5 ∨ x = 6
def rtM (b n p : Int32) : Int32 := ((p <<< ((20 : Int32) &&& 31)) ||| 983040) ||| kBits (cLow b) (cLow b + n.toInt64)
def rrR (R : Nat → Cap) (r m : Nat) (b n p : Int32) : Nat → Cap := va_up (va_up R r (true, b, rtM b n p)) (40 + m) (true, b, rtM b n p)
theorem up_id (R : Nat → Cap) (k : Nat) : va_up R k (R k) = R := by
  funext j
  unfold va_up
  split
  · rename_i h
    rw [h]
  · rfl
theorem kIt_h {k : Nat} {s : KS} (h : s.ha = true) : kIt k s = (0, s) := by
  cases k with
  | zero => rfl
  | succ k => exact if_pos h
theorem kIt_s {n j : Nat} {s : KS} (hz : j < n) (h : s.ha = false) : ((kIt (n - j) s).1 + j, (kIt (n - j) s).2) = ((kIt (n - (j + 1)) (kStep s)).1 + (j + 1), (kIt (n - (j + 1)) (kStep s)).2) := by
  obtain ⟨k, hk⟩ : ∃ k, n - j = k + 1 := ⟨n - j - 1, by omega⟩
  have e : n - (j + 1) = k := by omega
  rw [hk, e]
  have h2 : kIt (k + 1) s = ((kIt k (kStep s)).1 + 1, (kIt k (kStep s)).2) := if_neg (by rw [h]; decide)
  rw [h2, Nat.add_assoc, Nat.add_comm 1 j]
set_option maxHeartbeats 4000000 in
set_option maxRecDepth 100000 in
theorem c_Cor_isOutsideRoots (l : Launch) (D : va_G) (ti : Nat → ClassId) (ad : Nat → Nat) (u : MT) (pi ex de : Nat) (xi xb di db fi fb : Int32) (ob reg : Nat → Nat) (kq : Int32 × Bool × Bool × Int32 × Int64) (ca va fv : Int32) (R : Nat → Cap) (co : Nat) (kp : Int32 × Bool × Bool × Int32 × Int64) (m : Nat) (st tr : Int32) (ha : Bool) (hm : m ≤ 8) (k : Nat) (hk : k < 40) : Cr l y_Cor_isOutsideRoots (wl y_Cor_isOutsideRoots b_Cor_isOutsideRoots 3 (some .boolean)) (rmL 2) D clz (ty4 ti) [.ref co, .ref (reg k)] ((CW ad ti u pi ex de xi xb di db fi fb ob reg kq ca va fv R) ++ (KT ti co ob reg kp (nI m) st tr ha)) (some (.int (jb (oOut R m (R k))))) := by
  refine Cr.ofF (plainFor_of_name (by decide)) (Nat.le_of_ble_eq_true rfl) ?_
  intro p9 e9 s9 m9 b9 me9 c9 ls S hr hlk hl hw
  obtain ⟨hx, hb, hml, hown, hts⟩ := id S
  have hl : lv_has ls 3 [(0, .ref co), (1, .ref (reg k))] := hl
  refine lv_aload_n hx hb d_Cor_isOutsideRoots_0 rfl (lv_at hl 1 rfl) ?_
  refine q_get S hw ly_Cap (21 + (k)) (app_at (CW_at (by first | decide | omega))) rfl 0 (by decide) tb_1_48 rfl rfl d_Cor_isOutsideRoots_1 ?_
  refine q_ifz_ne S d_Cor_isOutsideRoots_4 rfl (fun h4 => ?_) (fun h4 => ?_)
  · refine lv_iconst (v := 0) hx hb d_Cor_isOutsideRoots_9 (by decide) ?_
    refine lv_istore_n (lv' := [(2, .int (0 : Int32)), (0, .ref co), (1, .ref (reg k))]) hx hb d_Cor_isOutsideRoots_10 rfl hl (by decide) rfl (fun ls hl => ?_)
    refine q_loop (Z := Nat) (pcL := 11) (st := []) (nL := 3) (fun z => [(2, .int (nI z)), (1, .ref (reg k)), (0, .ref co)]) (fun z => z ≤ m ∧ ∀ j, j < z → cWC (R k) (R (40 + j)) = false) (fun z => m - z) (fun z ls hI11 hl IH11 => ?_) 0 (⟨Nat.zero_le _, fun j hj => absurd hj (Nat.not_lt_zero j)⟩) (q_loc (l' := [(2, .int (nI 0)), (1, .ref (reg k)), (0, .ref co)]) (lv_sub (l' := [(2, .int (0 : Int32)), (1, .ref (reg k)), (0, .ref co)]) hl [0, 2, 1] rfl) (rfl))
    have hl : lv_has ls 3 [(2, .int (nI z)), (1, .ref (reg k)), (0, .ref co)] := hl
    refine lv_iload_n hx hb d_Cor_isOutsideRoots_11 rfl (lv_at hl 0 rfl) ?_
    refine lv_aload_n hx hb d_Cor_isOutsideRoots_12 rfl (lv_at hl 2 rfl) ?_
    refine q_get S hw ly_Cor 69 rfl rfl 6 (by decide) tb_2_73 rfl rfl d_Cor_isOutsideRoots_13 ?_
    refine lv_icmp_ge hx hb d_Cor_isOutsideRoots_16 rfl (fun h16 => ?_) (fun h16 => ?_)
    · refine lv_iconst (v := 1) hx hb d_Cor_isOutsideRoots_40 (by decide) ?_
      exact rd_i S hr hlk rfl d_Cor_isOutsideRoots_41 (by unfold oOut; rw [if_neg (show ¬ (R k).1 = false by rw [h4]; decide), anyR_f (fun j hj => hI11.2 j (by have := (nI_leI (by omega) (by omega)).mp h16; omega))]; rfl)
    · have hz := lt_nge (c := m) (by omega) hI11.1 h16
      refine lv_aload_n hx hb d_Cor_isOutsideRoots_19 rfl (lv_at hl 1 rfl) ?_
      refine lv_aload_n hx hb d_Cor_isOutsideRoots_20 rfl (lv_at hl 2 rfl) ?_
      refine q_get S hw ly_Cor 69 rfl rfl 5 (by decide) tb_2_72 rfl rfl d_Cor_isOutsideRoots_21 ?_
      refine lv_iload_n hx hb d_Cor_isOutsideRoots_24 rfl (lv_at hl 0 rfl) ?_
      refine q_aaldN (k := z) S hw 71 3 rfl rfl (by first | assumption | omega) (by decide) d_Cor_isOutsideRoots_25 ?_
      refine q_cr (q_runV (As := [.ref (reg (40 + z))]) (rest := []) S ((w_isW l D ti ad u pi ex de xi xb di db fi fb ob reg kq ca va fv R (k) (40 + z) (by first | decide | omega) (by first | decide | omega)).front (KT ti co ob reg kp (nI m) st tr ha)) (cw_v hts tb_2_127 k_Cap_isWithin rfl rfl ⟨by decide, by decide⟩) hw (21 + (k)) (app_at (CW_at (by first | decide | omega))) rfl rfl hl.1 rfl (Nat.le_of_ble_eq_true rfl) d_Cor_isOutsideRoots_26 ⟨Nat.zero_le _, Nat.zero_le _⟩) ?_
      refine W.eq (g2 := F0 m9 29 ls [.int (jb (cWC (R k) (R (40 + z))))]) rfl ?_
      refine q_ifz_eq S d_Cor_isOutsideRoots_29 rfl (fun h29 => ?_) (fun h29 => ?_)
      · refine lv_iinc (k := 0) (v := (nI (z + 1))) (lv' := [(2, .int (nI (z + 1))), (1, .ref (reg k)), (0, .ref co)]) hx hb d_Cor_isOutsideRoots_34 hl rfl (iinc1 z) (by decide) rfl (fun ls hl => ?_)
        refine lv_goto hx hb d_Cor_isOutsideRoots_37 rfl ?_
        exact IH11 (z + 1) _ (⟨by omega, fun j hj => (Nat.lt_succ_iff_lt_or_eq.mp hj).elim (hI11.2 j) (fun e => e ▸ h29)⟩) (by omega) (lv_sub (l' := [(2, .int (nI (z + 1))), (1, .ref (reg k)), (0, .ref co)]) hl [0, 1, 2] rfl)
      · refine lv_iconst (v := 0) hx hb d_Cor_isOutsideRoots_32 (by decide) ?_
        exact rd_i S hr hlk rfl d_Cor_isOutsideRoots_33 (by unfold oOut; rw [if_neg (show ¬ (R k).1 = false by rw [h4]; decide), anyR_t hz h29]; rfl)
  · refine lv_iconst (v := 0) hx hb d_Cor_isOutsideRoots_7 (by decide) ?_
    exact rd_i S hr hlk rfl d_Cor_isOutsideRoots_8 (by unfold oOut; rw [if_pos h4]; rfl)
set_option maxHeartbeats 4000000 in
set_option maxRecDepth 100000 in
theorem c_Cor_memory (l : Launch) (D : va_G) (ti : Nat → ClassId) (ad : Nat → Nat) (u : MT) (pi ex de : Nat) (xi xb di db fi fb : Int32) (ob reg : Nat → Nat) (kq : Int32 × Bool × Bool × Int32 × Int64) (ca va fv : Int32) (R : Nat → Cap) (co : Nat) (kp : Int32 × Bool × Bool × Int32 × Int64) (rc st tr : Int32) (ha : Bool) (w g : Nat → Int32) (hM : MIt u w g) (i : Nat) (hi : i < 4096) : Cr l y_Cor_memory (wl y_Cor_memory b_Cor_memory 2 (some .int)) (rmL 3) D clz (ty4 ti) [.ref co, .int (nI i)] ((CW ad ti u pi ex de xi xb di db fi fb ob reg kq ca va fv R) ++ (KT ti co ob reg kp rc st tr ha)) (some (.int (w i))) := by
  refine Cr.ofF (plainFor_of_name (by decide)) (Nat.le_of_ble_eq_true rfl) ?_
  intro p9 e9 s9 m9 b9 me9 c9 ls S hr hlk hl hw
  obtain ⟨hx, hb, hml, hown, hts⟩ := id S
  have hl : lv_has ls 2 [(0, .ref co), (1, .int (nI i))] := hl
  refine lv_iload_n hx hb d_Cor_memory_0 rfl (lv_at hl 1 rfl) ?_
  refine q_cr (q_runS (As := [.int (nI i)]) (rest := []) S ((c_Cor_isWord l D (ty4 ti) (nI i)).nil _) (cw_s hts tb_2_194 k_Cor_isWord rfl rfl ⟨by decide, by decide⟩) hw rfl hl.1 rfl (Nat.le_of_ble_eq_true rfl) d_Cor_memory_1 ⟨Nat.zero_le _, Nat.zero_le _⟩) ?_
  refine W.eq (g2 := F0 m9 4 ls [.int (jb (isW (nI i)))]) rfl ?_
  refine q_ifz_ne S d_Cor_memory_4 rfl (fun h4 => ?_) (fun h4 => ?_)
  · refine lv_aload_n hx hb d_Cor_memory_17 rfl (lv_at hl 0 rfl) ?_
    refine q_get S hw ly_Cor 69 rfl rfl 0 (by decide) tb_2_67 rfl rfl d_Cor_memory_18 ?_
    refine q_get S hw ly_Sta 16 rfl rfl 3 (by decide) tb_1_218 rfl rfl d_Cor_memory_21 ?_
    refine lv_iload_n hx hb d_Cor_memory_24 rfl (lv_at hl 1 rfl) ?_
    refine q_cr (q_runV (As := [.int (nI i)]) (rest := []) S ((p_seenWord l D ti ad u w g hM i (by first | assumption | omega) _).front (KT ti co ob reg kp rc st tr ha)) (cw_v hts tb_2_154 k_Mem_seenWord rfl rfl ⟨by decide, by decide⟩) hw 0 rfl rfl rfl hl.1 rfl (Nat.le_of_ble_eq_true rfl) d_Cor_memory_25 ⟨Nat.zero_le _, Nat.zero_le _⟩) ?_
    refine W.eq (g2 := F0 m9 28 ls [.int (w i)]) rfl ?_
    exact rd_i S hr hlk rfl d_Cor_memory_28 (rfl)
  · rw [isW_ok hi] at h4
    exact absurd h4 (by decide)
set_option maxHeartbeats 4000000 in
set_option maxRecDepth 100000 in
theorem c_Cor_tag (l : Launch) (D : va_G) (ti : Nat → ClassId) (ad : Nat → Nat) (u : MT) (pi ex de : Nat) (xi xb di db fi fb : Int32) (ob reg : Nat → Nat) (kq : Int32 × Bool × Bool × Int32 × Int64) (ca va fv : Int32) (R : Nat → Cap) (co : Nat) (kp : Int32 × Bool × Bool × Int32 × Int64) (rc st tr : Int32) (ha : Bool) (w g : Nat → Int32) (hM : MIt u w g) (i : Nat) (hi : i < 4096) : Cr l y_Cor_tag (wl y_Cor_tag b_Cor_tag 2 (some .boolean)) (rmL 3) D clz (ty4 ti) [.ref co, .int (nI i)] ((CW ad ti u pi ex de xi xb di db fi fb ob reg kq ca va fv R) ++ (KT ti co ob reg kp rc st tr ha)) (some (.int (jb (gTag g i)))) := by
  refine Cr.ofF (plainFor_of_name (by decide)) (Nat.le_of_ble_eq_true rfl) ?_
  intro p9 e9 s9 m9 b9 me9 c9 ls S hr hlk hl hw
  obtain ⟨hx, hb, hml, hown, hts⟩ := id S
  have hl : lv_has ls 2 [(0, .ref co), (1, .int (nI i))] := hl
  refine lv_iload_n hx hb d_Cor_tag_0 rfl (lv_at hl 1 rfl) ?_
  refine q_cr (q_runS (As := [.int (nI i)]) (rest := []) S ((c_Cor_isWord l D (ty4 ti) (nI i)).nil _) (cw_s hts tb_2_194 k_Cor_isWord rfl rfl ⟨by decide, by decide⟩) hw rfl hl.1 rfl (Nat.le_of_ble_eq_true rfl) d_Cor_tag_1 ⟨Nat.zero_le _, Nat.zero_le _⟩) ?_
  refine W.eq (g2 := F0 m9 4 ls [.int (jb (isW (nI i)))]) rfl ?_
  refine q_ifz_ne S d_Cor_tag_4 rfl (fun h4 => ?_) (fun h4 => ?_)
  · refine lv_aload_n hx hb d_Cor_tag_17 rfl (lv_at hl 0 rfl) ?_
    refine q_get S hw ly_Cor 69 rfl rfl 0 (by decide) tb_2_67 rfl rfl d_Cor_tag_18 ?_
    refine q_get S hw ly_Sta 16 rfl rfl 3 (by decide) tb_1_218 rfl rfl d_Cor_tag_21 ?_
    refine lv_iload_n hx hb d_Cor_tag_24 rfl (lv_at hl 1 rfl) ?_
    refine q_cr (q_runV (As := [.int (nI i)]) (rest := []) S ((p_seenTag l D ti ad u w g hM i (by first | assumption | omega) _).front (KT ti co ob reg kp rc st tr ha)) (cw_v hts tb_2_135 k_Mem_seenTag rfl rfl ⟨by decide, by decide⟩) hw 0 rfl rfl rfl hl.1 rfl (Nat.le_of_ble_eq_true rfl) d_Cor_tag_25 ⟨Nat.zero_le _, Nat.zero_le _⟩) ?_
    refine W.eq (g2 := F0 m9 28 ls [.int (jb (gTag g i))]) rfl ?_
    exact rd_i S hr hlk (jb_nar _) d_Cor_tag_28 (rfl)
  · rw [isW_ok hi] at h4
    exact absurd h4 (by decide)
set_option maxHeartbeats 4000000 in
set_option maxRecDepth 100000 in
theorem c_Cor_check (l : Launch) (D : va_G) (ti : Nat → ClassId) (ad : Nat → Nat) (u : MT) (pi ex de : Nat) (xi xb di db fi fb : Int32) (ob reg : Nat → Nat) (kq : Int32 × Bool × Bool × Int32 × Int64) (ca va fv : Int32) (R : Nat → Cap) (co : Nat) (kp : Int32 × Bool × Bool × Int32 × Int64) (rc st tr : Int32) (ha : Bool) (w g : Nat → Int32) (hM : MIt u w g) : Cr l y_Cor_check (wl y_Cor_check b_Cor_check 1 (some .int)) (rmL 3) D clz (ty4 ti) [.ref co] ((CW ad ti u pi ex de xi xb di db fi fb ob reg kq ca va fv R) ++ (KT ti co ob reg kp rc st tr ha)) (some (.int 0)) := by
  refine Cr.ofF (plainFor_of_name (by decide)) (Nat.le_of_ble_eq_true rfl) ?_
  intro p9 e9 s9 m9 b9 me9 c9 ls S hr hlk hl hw
  obtain ⟨hx, hb, hml, hown, hts⟩ := id S
  have hl : lv_has ls 1 [(0, .ref co)] := hl
  refine lv_aload_n hx hb d_Cor_check_0 rfl (lv_at hl 0 rfl) ?_
  refine q_get S hw ly_Cor 69 rfl rfl 0 (by decide) tb_2_67 rfl rfl d_Cor_check_1 ?_
  refine q_get S hw ly_Sta 16 rfl rfl 3 (by decide) tb_1_218 rfl rfl d_Cor_check_4 ?_
  refine q_cr (q_runV (As := []) (rest := []) S ((p_wrongs l D ti ad u w g hM _).front (KT ti co ob reg kp rc st tr ha)) (cw_v hts tb_2_163 k_Mem_wrongs rfl rfl ⟨by decide, by decide⟩) hw 0 rfl rfl rfl hl.1 rfl (Nat.le_of_ble_eq_true rfl) d_Cor_check_7 ⟨Nat.zero_le _, Nat.zero_le _⟩) ?_
  refine W.eq (g2 := F0 m9 10 ls [.int (0 : Int32)]) rfl ?_
  exact rd_i S hr hlk rfl d_Cor_check_10 (rfl)
set_option maxHeartbeats 4000000 in
set_option maxRecDepth 100000 in
theorem c_Cor_count (l : Launch) (D : va_G) (ti : Nat → ClassId) (ad : Nat → Nat) (u : MT) (pi ex de : Nat) (xi xb di db fi fb : Int32) (ob reg : Nat → Nat) (kq : Int32 × Bool × Bool × Int32 × Int64) (ca va fv : Int32) (R : Nat → Cap) (co : Nat) (kp : Int32 × Bool × Bool × Int32 × Int64) (rc st tr : Int32) (ha : Bool) (w g : Nat → Int32) (hM : MIt u w g) (x : Int32) (h7 : up7 x) : Cr l y_Cor_count (wl y_Cor_count b_Cor_count 2 (some .int)) (rmL 3) D clz (ty4 ti) [.ref co, .int x] ((CW ad ti u pi ex de xi xb di db fi fb ob reg kq ca va fv R) ++ (KT ti co ob reg kp rc st tr ha)) (some (.int (cV ha ca va st tr rc (gSum g 512) x))) := by
  refine Cr.ofF (plainFor_of_name (by decide)) (Nat.le_of_ble_eq_true rfl) ?_
  intro p9 e9 s9 m9 b9 me9 c9 ls S hr hlk hl hw
  obtain ⟨hx, hb, hml, hown, hts⟩ := id S
  have hl : lv_has ls 2 [(0, .ref co), (1, .int x)] := hl
  refine lv_iload_n hx hb d_Cor_count_0 rfl (lv_at hl 1 rfl) ?_
  by_cases hc1_0 : x = (0 : Int32)
  · refine lv_tableIn hx hb d_Cor_count_1 (by rw [hc1_0]; decide) (by rw [hc1_0]; decide) (by rw [hc1_0]; rfl) rfl ?_
    refine lv_aload_n hx hb d_Cor_count_44 rfl (lv_at hl 0 rfl) ?_
    refine q_get S hw ly_Cor 69 rfl rfl 9 (by decide) tb_2_76 rfl rfl d_Cor_count_45 ?_
    refine q_ifz_eq S d_Cor_count_48 rfl (fun h48 => ?_) (fun h48 => ?_)
    · refine lv_iconst (v := 0) hx hb d_Cor_count_55 (by decide) ?_
      exact rd_i S hr hlk rfl d_Cor_count_56 (by unfold cV; rw [if_pos hc1_0]; simp [h48])
    · refine lv_iconst (v := 1) hx hb d_Cor_count_51 (by decide) ?_
      refine lv_goto hx hb d_Cor_count_52 rfl ?_
      exact rd_i S hr hlk rfl d_Cor_count_56 (by unfold cV; rw [if_pos hc1_0]; simp [h48])
  by_cases hc1_1 : x = (1 : Int32)
  · refine lv_tableIn hx hb d_Cor_count_1 (by rw [hc1_1]; decide) (by rw [hc1_1]; decide) (by rw [hc1_1]; rfl) rfl ?_
    refine lv_aload_n hx hb d_Cor_count_57 rfl (lv_at hl 0 rfl) ?_
    refine q_get S hw ly_Cor 69 rfl rfl 0 (by decide) tb_2_67 rfl rfl d_Cor_count_58 ?_
    refine q_get S hw ly_Sta 16 rfl rfl 5 (by decide) tb_1_223 rfl rfl d_Cor_count_61 ?_
    exact rd_i S hr hlk rfl d_Cor_count_64 (by unfold cV; rw [if_neg hc1_0, if_pos hc1_1])
  by_cases hc1_2 : x = (2 : Int32)
  · refine lv_tableIn hx hb d_Cor_count_1 (by rw [hc1_2]; decide) (by rw [hc1_2]; decide) (by rw [hc1_2]; rfl) rfl ?_
    refine lv_aload_n hx hb d_Cor_count_65 rfl (lv_at hl 0 rfl) ?_
    refine q_get S hw ly_Cor 69 rfl rfl 0 (by decide) tb_2_67 rfl rfl d_Cor_count_66 ?_
    refine q_get S hw ly_Sta 16 rfl rfl 6 (by decide) tb_1_225 rfl rfl d_Cor_count_69 ?_
    exact rd_i S hr hlk rfl d_Cor_count_72 (by unfold cV; rw [if_neg hc1_0, if_neg hc1_1, if_pos hc1_2])
  by_cases hc1_3 : x = (3 : Int32)
  · refine lv_tableIn hx hb d_Cor_count_1 (by rw [hc1_3]; decide) (by rw [hc1_3]; decide) (by rw [hc1_3]; rfl) rfl ?_
    refine lv_aload_n hx hb d_Cor_count_73 rfl (lv_at hl 0 rfl) ?_
    refine q_get S hw ly_Cor 69 rfl rfl 7 (by decide) tb_2_74 rfl rfl d_Cor_count_74 ?_
    exact rd_i S hr hlk rfl d_Cor_count_77 (by unfold cV; rw [if_neg hc1_0, if_neg hc1_1, if_neg hc1_2, if_pos hc1_3])
  by_cases hc1_4 : x = (4 : Int32)
  · refine lv_tableIn hx hb d_Cor_count_1 (by rw [hc1_4]; decide) (by rw [hc1_4]; decide) (by rw [hc1_4]; rfl) rfl ?_
    refine lv_aload_n hx hb d_Cor_count_78 rfl (lv_at hl 0 rfl) ?_
    refine q_get S hw ly_Cor 69 rfl rfl 8 (by decide) tb_2_75 rfl rfl d_Cor_count_79 ?_
    exact rd_i S hr hlk rfl d_Cor_count_82 (by unfold cV; rw [if_neg hc1_0, if_neg hc1_1, if_neg hc1_2, if_neg hc1_3, if_pos hc1_4])
  by_cases hc1_5 : x = (5 : Int32)
  · refine lv_tableIn hx hb d_Cor_count_1 (by rw [hc1_5]; decide) (by rw [hc1_5]; decide) (by rw [hc1_5]; rfl) rfl ?_
    refine lv_aload_n hx hb d_Cor_count_83 rfl (lv_at hl 0 rfl) ?_
    refine q_get S hw ly_Cor 69 rfl rfl 6 (by decide) tb_2_73 rfl rfl d_Cor_count_84 ?_
    exact rd_i S hr hlk rfl d_Cor_count_87 (by unfold cV; rw [if_neg hc1_0, if_neg hc1_1, if_neg hc1_2, if_neg hc1_3, if_neg hc1_4, if_pos hc1_5])
  by_cases hc1_6 : x = (6 : Int32)
  · refine lv_tableIn hx hb d_Cor_count_1 (by rw [hc1_6]; decide) (by rw [hc1_6]; decide) (by rw [hc1_6]; rfl) rfl ?_
    refine lv_aload_n hx hb d_Cor_count_88 rfl (lv_at hl 0 rfl) ?_
    refine q_get S hw ly_Cor 69 rfl rfl 0 (by decide) tb_2_67 rfl rfl d_Cor_count_89 ?_
    refine q_get S hw ly_Sta 16 rfl rfl 3 (by decide) tb_1_218 rfl rfl d_Cor_count_92 ?_
    refine q_cr (q_runV (As := []) (rest := []) S ((p_tagsHeld l D ti ad u w g hM _).front (KT ti co ob reg kp rc st tr ha)) (cw_v hts tb_5_22 k_Mem_tagsHeld rfl rfl ⟨by decide, by decide⟩) hw 0 rfl rfl rfl hl.1 rfl (Nat.le_of_ble_eq_true rfl) d_Cor_count_95 ⟨Nat.zero_le _, Nat.zero_le _⟩) ?_
    refine W.eq (g2 := F0 m9 98 ls [.int (gSum g 512)]) rfl ?_
    exact rd_i S hr hlk rfl d_Cor_count_98 (by unfold cV; rw [if_neg hc1_0, if_neg hc1_1, if_neg hc1_2, if_neg hc1_3, if_neg hc1_4, if_neg hc1_5])
  refine lv_tableOut hx hb d_Cor_count_1 (by have := lv_neT hc1_0 (a := 0) rfl; have := lv_neT hc1_1 (a := 1) rfl; have := lv_neT hc1_2 (a := 2) rfl; have := lv_neT hc1_3 (a := 3) rfl; have := lv_neT hc1_4 (a := 4) rfl; have := lv_neT hc1_5 (a := 5) rfl; have := lv_neT hc1_6 (a := 6) rfl; omega) rfl ?_
  rcases h7 with h | h | h | h | h | h | h
  · exact absurd h hc1_0
  · exact absurd h hc1_1
  · exact absurd h hc1_2
  · exact absurd h hc1_3
  · exact absurd h hc1_4
  · exact absurd h hc1_5
  · exact absurd h hc1_6
set_option maxHeartbeats 4000000 in
set_option maxRecDepth 100000 in
theorem c_Cor_told (l : Launch) (D : va_G) (ti : Nat → ClassId) (ad : Nat → Nat) (u : MT) (pi ex de : Nat) (xi xb di db fi fb : Int32) (ob reg : Nat → Nat) (kq : Int32 × Bool × Bool × Int32 × Int64) (ca va fv : Int32) (R : Nat → Cap) (co : Nat) (kp : Int32 × Bool × Bool × Int32 × Int64) (rc st tr : Int32) (ha : Bool) (r : Nat) (hr : r < 37) (x : Int32) (h7 : up7 x) : Cr l y_Cor_told (wl y_Cor_told b_Cor_told 4 (some .int)) (rmL 2) D clz (ty4 ti) [.ref co, .int (nI r), .int x] ((CW ad ti u pi ex de xi xb di db fi fb ob reg kq ca va fv R) ++ (KT ti co ob reg kp rc st tr ha)) (some (.int (tV (R r) x))) := by
  refine Cr.ofF (plainFor_of_name (by decide)) (Nat.le_of_ble_eq_true rfl) ?_
  intro p9 e9 s9 m9 b9 me9 c9 ls S hr hlk hl hw
  obtain ⟨hx, hb, hml, hown, hts⟩ := id S
  have hl : lv_has ls 4 [(0, .ref co), (1, .int (nI r)), (2, .int x)] := hl
  refine lv_iload_n hx hb d_Cor_told_0 rfl (lv_at hl 1 rfl) ?_
  refine lv_if_lt hx hb d_Cor_told_1 rfl (fun h => absurd h (nI_pos (by omega))) (fun _ => ?_)
  refine lv_iload_n hx hb d_Cor_told_4 rfl (lv_at hl 1 rfl) ?_
  refine lv_bipush (v := 37) hx hb d_Cor_told_5 (by decide) ?_
  refine lv_icmp_lt hx hb d_Cor_told_7 rfl (fun _ => ?_) (fun h => absurd h (not_not_intro (nI_lt (a := r) (b := 37) (by omega) (by decide))))
  refine lv_aload_n hx hb d_Cor_told_20 rfl (lv_at hl 0 rfl) ?_
  refine q_get S hw ly_Cor 69 rfl rfl 0 (by decide) tb_2_67 rfl rfl d_Cor_told_21 ?_
  refine q_get S hw ly_Sta 16 rfl rfl 0 (by decide) tb_1_208 rfl rfl d_Cor_told_24 ?_
  refine lv_iload_n hx hb d_Cor_told_27 rfl (lv_at hl 1 rfl) ?_
  refine q_aaldN (k := r) S hw 17 3 rfl rfl (by first | assumption | omega) (by decide) d_Cor_told_28 ?_
  refine lv_astore_n (lv' := [(3, .ref (reg r)), (0, .ref co), (1, .int (nI r)), (2, .int x)]) hx hb d_Cor_told_29 rfl hl (by decide) rfl (fun ls hl => ?_)
  refine lv_iload_n hx hb d_Cor_told_30 rfl (lv_at hl 3 rfl) ?_
  by_cases hc31_0 : x = (0 : Int32)
  · refine lv_tableIn hx hb d_Cor_told_31 (by rw [hc31_0]; decide) (by rw [hc31_0]; decide) (by rw [hc31_0]; rfl) rfl ?_
    refine lv_aload_n hx hb d_Cor_told_72 rfl (lv_at hl 0 rfl) ?_
    refine q_get S hw ly_Cap (21 + (r)) (app_at (CW_at (by first | decide | omega))) rfl 0 (by decide) tb_1_48 rfl rfl d_Cor_told_73 ?_
    refine q_ifz_eq S d_Cor_told_76 rfl (fun h76 => ?_) (fun h76 => ?_)
    · refine lv_iconst (v := 0) hx hb d_Cor_told_83 (by decide) ?_
      exact rd_i S hr hlk rfl d_Cor_told_84 (by unfold tV; rw [if_pos hc31_0]; simp [h76])
    · refine lv_iconst (v := 1) hx hb d_Cor_told_79 (by decide) ?_
      refine lv_goto hx hb d_Cor_told_80 rfl ?_
      exact rd_i S hr hlk rfl d_Cor_told_84 (by unfold tV; rw [if_pos hc31_0]; simp [h76])
  by_cases hc31_1 : x = (1 : Int32)
  · refine lv_tableIn hx hb d_Cor_told_31 (by rw [hc31_1]; decide) (by rw [hc31_1]; decide) (by rw [hc31_1]; rfl) rfl ?_
    refine lv_aload_n hx hb d_Cor_told_85 rfl (lv_at hl 0 rfl) ?_
    refine q_get S hw ly_Cap (21 + (r)) (app_at (CW_at (by first | decide | omega))) rfl 1 (by decide) tb_1_54 rfl rfl d_Cor_told_86 ?_
    exact rd_i S hr hlk rfl d_Cor_told_89 (by unfold tV; rw [if_neg hc31_0, if_pos hc31_1])
  by_cases hc31_2 : x = (2 : Int32)
  · refine lv_tableIn hx hb d_Cor_told_31 (by rw [hc31_2]; decide) (by rw [hc31_2]; decide) (by rw [hc31_2]; rfl) rfl ?_
    refine lv_aload_n hx hb d_Cor_told_90 rfl (lv_at hl 0 rfl) ?_
    refine q_cr (q_runV (As := []) (rest := []) S ((w_toldMeta l D ti ad u pi ex de xi xb di db fi fb ob reg kq ca va fv R (r) (by first | decide | omega)).front (KT ti co ob reg kp rc st tr ha)) (cw_v hts tb_4_236 k_Cap_toldMeta rfl rfl ⟨by decide, by decide⟩) hw (21 + (r)) (app_at (CW_at (by first | decide | omega))) rfl rfl hl.1 rfl (Nat.le_of_ble_eq_true rfl) d_Cor_told_91 ⟨Nat.zero_le _, Nat.zero_le _⟩) ?_
    refine W.eq (g2 := F0 m9 94 ls [.int (cTold (R r).2.2)]) rfl ?_
    exact rd_i S hr hlk rfl d_Cor_told_94 (by unfold tV; rw [if_neg hc31_0, if_neg hc31_1, if_pos hc31_2])
  by_cases hc31_3 : x = (3 : Int32)
  · refine lv_tableIn hx hb d_Cor_told_31 (by rw [hc31_3]; decide) (by rw [hc31_3]; decide) (by rw [hc31_3]; rfl) rfl ?_
    refine lv_aload_n hx hb d_Cor_told_95 rfl (lv_at hl 0 rfl) ?_
    refine q_get S hw ly_Cap (21 + (r)) (app_at (CW_at (by first | decide | omega))) rfl 3 (by decide) tb_1_57 rfl rfl d_Cor_told_96 ?_
    refine lv_l2i (v := ((cbase (R r).2.2 (R r).2.1).toInt32)) hx hb d_Cor_told_99 rfl ?_
    exact rd_i S hr hlk rfl d_Cor_told_100 (by unfold tV; rw [if_neg hc31_0, if_neg hc31_1, if_neg hc31_2, if_pos hc31_3])
  by_cases hc31_4 : x = (4 : Int32)
  · refine lv_tableIn hx hb d_Cor_told_31 (by rw [hc31_4]; decide) (by rw [hc31_4]; decide) (by rw [hc31_4]; rfl) rfl ?_
    refine lv_aload_n hx hb d_Cor_told_101 rfl (lv_at hl 0 rfl) ?_
    refine q_cr (q_runV (As := []) (rest := []) S ((w_length l D ti ad u pi ex de xi xb di db fi fb ob reg kq ca va fv R (r) (by first | decide | omega)).front (KT ti co ob reg kp rc st tr ha)) (cw_v hts tb_4_237 k_Cap_length rfl rfl ⟨by decide, by decide⟩) hw (21 + (r)) (app_at (CW_at (by first | decide | omega))) rfl rfl hl.1 rfl (Nat.le_of_ble_eq_true rfl) d_Cor_told_102 ⟨Nat.zero_le _, Nat.zero_le _⟩) ?_
    refine W.eq (g2 := F0 m9 105 ls [.int (cLen (cbase (R r).2.2 (R r).2.1) (ctop (R r).2.2 (R r).2.1))]) rfl ?_
    exact rd_i S hr hlk rfl d_Cor_told_105 (by unfold tV; rw [if_neg hc31_0, if_neg hc31_1, if_neg hc31_2, if_neg hc31_3, if_pos hc31_4])
  by_cases hc31_5 : x = (5 : Int32)
  · refine lv_tableIn hx hb d_Cor_told_31 (by rw [hc31_5]; decide) (by rw [hc31_5]; decide) (by rw [hc31_5]; rfl) rfl ?_
    refine lv_aload_n hx hb d_Cor_told_106 rfl (lv_at hl 0 rfl) ?_
    refine q_cr (q_runV (As := []) (rest := []) S ((w_perms l D ti ad u pi ex de xi xb di db fi fb ob reg kq ca va fv R (r) (by first | decide | omega)).front (KT ti co ob reg kp rc st tr ha)) (cw_v hts tb_4_238 k_Cap_perms rfl rfl ⟨by decide, by decide⟩) hw (21 + (r)) (app_at (CW_at (by first | decide | omega))) rfl rfl hl.1 rfl (Nat.le_of_ble_eq_true rfl) d_Cor_told_107 ⟨Nat.zero_le _, Nat.zero_le _⟩) ?_
    refine W.eq (g2 := F0 m9 110 ls [.int (cPerms (R r).2.2)]) rfl ?_
    exact rd_i S hr hlk rfl d_Cor_told_110 (by unfold tV; rw [if_neg hc31_0, if_neg hc31_1, if_neg hc31_2, if_neg hc31_3, if_neg hc31_4, if_pos hc31_5])
  by_cases hc31_6 : x = (6 : Int32)
  · refine lv_tableIn hx hb d_Cor_told_31 (by rw [hc31_6]; decide) (by rw [hc31_6]; decide) (by rw [hc31_6]; rfl) rfl ?_
    refine lv_aload_n hx hb d_Cor_told_111 rfl (lv_at hl 0 rfl) ?_
    refine q_cr (q_runV (As := []) (rest := []) S ((w_type l D ti ad u pi ex de xi xb di db fi fb ob reg kq ca va fv R (r) (by first | decide | omega)).front (KT ti co ob reg kp rc st tr ha)) (cw_v hts tb_4_239 k_Cap_type rfl rfl ⟨by decide, by decide⟩) hw (21 + (r)) (app_at (CW_at (by first | decide | omega))) rfl rfl hl.1 rfl (Nat.le_of_ble_eq_true rfl) d_Cor_told_112 ⟨Nat.zero_le _, Nat.zero_le _⟩) ?_
    refine W.eq (g2 := F0 m9 115 ls [.int (cType (R r).2.2)]) rfl ?_
    exact rd_i S hr hlk rfl d_Cor_told_115 (by unfold tV; rw [if_neg hc31_0, if_neg hc31_1, if_neg hc31_2, if_neg hc31_3, if_neg hc31_4, if_neg hc31_5])
  refine lv_tableOut hx hb d_Cor_told_31 (by have := lv_neT hc31_0 (a := 0) rfl; have := lv_neT hc31_1 (a := 1) rfl; have := lv_neT hc31_2 (a := 2) rfl; have := lv_neT hc31_3 (a := 3) rfl; have := lv_neT hc31_4 (a := 4) rfl; have := lv_neT hc31_5 (a := 5) rfl; have := lv_neT hc31_6 (a := 6) rfl; omega) rfl ?_
  rcases h7 with h | h | h | h | h | h | h
  · exact absurd h hc31_0
  · exact absurd h hc31_1
  · exact absurd h hc31_2
  · exact absurd h hc31_3
  · exact absurd h hc31_4
  · exact absurd h hc31_5
  · exact absurd h hc31_6
set_option maxHeartbeats 4000000 in
set_option maxRecDepth 100000 in
theorem c_Cor_bound (l : Launch) (D : va_G) (ti : Nat → ClassId) (ad : Nat → Nat) (u : MT) (pi ex de : Nat) (xi xb di db fi fb : Int32) (ob reg : Nat → Nat) (kq : Int32 × Bool × Bool × Int32 × Int64) (ca va fv : Int32) (R : Nat → Cap) (co : Nat) (kp : Int32 × Bool × Bool × Int32 × Int64) (rc st tr : Int32) (ha : Bool) (me a : Int32) (tp : Bool) : Cg l y_Cor_bound (wl y_Cor_bound b_Cor_bound 4 (some .long)) (rmL 3) D clz (ty4 ti) [.ref co, .int me, .int a, .int (jb tp)] ((CW ad ti u pi ex de xi xb di db fi fb ob reg kq ca va fv R) ++ (KT ti co ob reg kp rc st tr ha)) (fun _ : Unit => some (.long (if tp = false then cbase (me &&& 32767) a else ctop (me &&& 32767) a))) (fun _ => ((CW ad ti u pi ex de xi xb di db fi fb ob reg kq ca va fv (va_up R 39 (false, a, me &&& 32767))) ++ (KT ti co ob reg kp rc st tr ha))) (fun _ => True) := by
  refine Cg.ofF (plainFor_of_name (by decide)) (Nat.le_of_ble_eq_true rfl) ?_
  intro p9 e9 s9 m9 b9 me9 c9 ls S hr hlk hl hw
  obtain ⟨hx, hb, hml, hown, hts⟩ := id S
  have hl : lv_has ls 4 [(0, .ref co), (1, .int me), (2, .int a), (3, .int (jb tp))] := hl
  refine lv_aload_n hx hb d_Cor_bound_0 rfl (lv_at hl 0 rfl) ?_
  refine q_get S hw ly_Cor 69 rfl rfl 4 (by decide) tb_2_71 rfl rfl d_Cor_bound_1 ?_
  refine lv_iconst (v := 0) hx hb d_Cor_bound_4 (by decide) ?_
  refine lv_iload_n hx hb d_Cor_bound_5 rfl (lv_at hl 2 rfl) ?_
  refine lv_iload_n hx hb d_Cor_bound_6 rfl (lv_at hl 1 rfl) ?_
  refine lv_sipush (v := 32767) hx hb d_Cor_bound_7 (by decide) ?_
  refine lv_iand hx hb d_Cor_bound_10 ?_
  refine q_cg (q_runV (As := [.int (jb false), .int a, .int (me &&& (32767 : Int32))]) (rest := []) S ((w_define l D ti ad u pi ex de xi xb di db fi fb ob reg kq ca va fv R (39) (by first | decide | omega) false a (me &&& (32767 : Int32))).front (fun _ => CW_ln) (KT ti co ob reg kp rc st tr ha)) (cw_v hts tb_2_102 k_Cap_define rfl rfl ⟨by decide, by decide⟩) hw (21 + (39)) (app_at (CW_at (by first | decide | omega))) rfl rfl hl.1 rfl (Nat.le_of_ble_eq_true rfl) d_Cor_bound_11 ⟨Nat.zero_le _, Nat.zero_le _⟩) hw (fun z hD => KW_D hD) (fun z9 H locs hp9 hw => ?_)
  refine W.eq (g2 := F0 m9 14 ls []) rfl ?_
  have hw : Lv _ _ _ _ _ ((CW ad ti u pi ex de xi xb di db fi fb ob reg kq ca va fv (va_up R (39) ((false, a, (me &&& (32767 : Int32))) : Cap))) ++ (KT ti co ob reg kp rc st tr ha)) _ _ _ := hw
  refine lv_iload_n hx hb d_Cor_bound_14 rfl (lv_at hl 3 rfl) ?_
  refine q_ifz_eq S d_Cor_bound_15 rfl (fun h15 => ?_) (fun h15 => ?_)
  · refine lv_aload_n hx hb d_Cor_bound_28 rfl (lv_at hl 0 rfl) ?_
    refine q_get S hw ly_Cor 69 rfl rfl 4 (by decide) tb_2_71 rfl rfl d_Cor_bound_29 ?_
    refine q_get S hw ly_Cap (21 + (39)) (app_at (CW_at (by first | decide | omega))) rfl 3 (by decide) tb_1_57 rfl rfl d_Cor_bound_32 ?_
    exact hw.rl S hr hlk d_Cor_bound_35 () (by simp [va_up_self, h15]) (trivial) (rfl)
  · refine lv_aload_n hx hb d_Cor_bound_18 rfl (lv_at hl 0 rfl) ?_
    refine q_get S hw ly_Cor 69 rfl rfl 4 (by decide) tb_2_71 rfl rfl d_Cor_bound_19 ?_
    refine q_get S hw ly_Cap (21 + (39)) (app_at (CW_at (by first | decide | omega))) rfl 4 (by decide) tb_1_60 rfl rfl d_Cor_bound_22 ?_
    refine lv_goto hx hb d_Cor_bound_25 rfl ?_
    exact hw.rl S hr hlk d_Cor_bound_35 () (by simp [va_up_self, h15]) (trivial) (rfl)
set_option maxHeartbeats 4000000 in
set_option maxRecDepth 100000 in
theorem c_Cor_put (l : Launch) (D : va_G) (ti : Nat → ClassId) (ad : Nat → Nat) (u : MT) (pi ex de : Nat) (xi xb di db fi fb : Int32) (ob reg : Nat → Nat) (kq : Int32 × Bool × Bool × Int32 × Int64) (ca va fv : Int32) (R : Nat → Cap) (co : Nat) (kp : Int32 × Bool × Bool × Int32 × Int64) (rc st tr : Int32) (ha : Bool) (r : Nat) (h1 : 1 ≤ r) (h32 : r < 32) (a me : Int32) : Cg l y_Cor_put (wl y_Cor_put b_Cor_put 4 none) (rmL 3) D clz (ty4 ti) [.ref co, .int (nI r), .int a, .int me] ((CW ad ti u pi ex de xi xb di db fi fb ob reg kq ca va fv R) ++ (KT ti co ob reg kp rc st tr ha)) (fun _ : Unit => none) (fun _ => ((CW ad ti u pi ex de xi xb di db fi fb ob reg kq ca va fv (va_up R r (false, a, me ^^^ 1000194))) ++ (KT ti co ob reg kp rc st tr ha))) (fun _ => True) := by
  refine Cg.ofF (plainFor_of_name (by decide)) (Nat.le_of_ble_eq_true rfl) ?_
  intro p9 e9 s9 m9 b9 me9 c9 ls S hr hlk hl hw
  obtain ⟨hx, hb, hml, hown, hts⟩ := id S
  have hl : lv_has ls 4 [(0, .ref co), (1, .int (nI r)), (2, .int a), (3, .int me)] := hl
  refine lv_iload_n hx hb d_Cor_put_0 rfl (lv_at hl 1 rfl) ?_
  refine lv_iconst (v := 1) hx hb d_Cor_put_1 (by decide) ?_
  refine lv_icmp_lt hx hb d_Cor_put_2 rfl (fun h => absurd h (nI_nlt (a := r) (b := 1) (by omega) (by omega))) (fun _ => ?_)
  refine lv_iload_n hx hb d_Cor_put_5 rfl (lv_at hl 1 rfl) ?_
  refine lv_bipush (v := 32) hx hb d_Cor_put_6 (by decide) ?_
  refine lv_icmp_lt hx hb d_Cor_put_8 rfl (fun _ => ?_) (fun h => absurd h (not_not_intro (nI_lt (a := r) (b := 32) (by omega) (by decide))))
  refine lv_aload_n hx hb d_Cor_put_21 rfl (lv_at hl 0 rfl) ?_
  refine q_get S hw ly_Cor 69 rfl rfl 0 (by decide) tb_2_67 rfl rfl d_Cor_put_22 ?_
  refine q_get S hw ly_Sta 16 rfl rfl 0 (by decide) tb_1_208 rfl rfl d_Cor_put_25 ?_
  refine lv_iload_n hx hb d_Cor_put_28 rfl (lv_at hl 1 rfl) ?_
  refine q_aaldN (k := r) S hw 17 3 rfl rfl (by first | assumption | omega) (by decide) d_Cor_put_29 ?_
  refine lv_iconst (v := 0) hx hb d_Cor_put_30 (by decide) ?_
  refine lv_iload_n hx hb d_Cor_put_31 rfl (lv_at hl 2 rfl) ?_
  refine lv_iload_n hx hb d_Cor_put_32 rfl (lv_at hl 3 rfl) ?_
  refine lv_ldc (v := 1000194) hx hb hown (hts _ tb_2_158) d_Cor_put_33 ?_
  refine lv_ixor hx hb d_Cor_put_35 ?_
  refine q_cg (q_runV (As := [.int (jb false), .int a, .int (me ^^^ (1000194 : Int32))]) (rest := []) S ((w_define l D ti ad u pi ex de xi xb di db fi fb ob reg kq ca va fv R (r) (by first | decide | omega) false a (me ^^^ (1000194 : Int32))).front (fun _ => CW_ln) (KT ti co ob reg kp rc st tr ha)) (cw_v hts tb_2_102 k_Cap_define rfl rfl ⟨by decide, by decide⟩) hw (21 + (r)) (app_at (CW_at (by first | decide | omega))) rfl rfl hl.1 rfl (Nat.le_of_ble_eq_true rfl) d_Cor_put_36 ⟨Nat.zero_le _, Nat.zero_le _⟩) hw (fun z hD => KW_D hD) (fun z9 H locs hp9 hw => ?_)
  refine W.eq (g2 := F0 m9 39 ls []) rfl ?_
  have hw : Lv _ _ _ _ _ ((CW ad ti u pi ex de xi xb di db fi fb ob reg kq ca va fv (va_up R (r) ((false, a, (me ^^^ (1000194 : Int32))) : Cap))) ++ (KT ti co ob reg kp rc st tr ha)) _ _ _ := hw
  exact hw.rv S hr hlk d_Cor_put_39 () (rfl) (trivial) (rfl)
set_option maxHeartbeats 4000000 in
set_option maxRecDepth 100000 in
theorem c_Cor_pack (l : Launch) (D : va_G) (ti : Nat → ClassId) (ad : Nat → Nat) (u : MT) (pi ex de : Nat) (xi xb di db fi fb : Int32) (ob reg : Nat → Nat) (kq : Int32 × Bool × Bool × Int32 × Int64) (ca va fv : Int32) (R : Nat → Cap) (co : Nat) (kp : Int32 × Bool × Bool × Int32 × Int64) (rc st tr : Int32) (ha : Bool) (b : Int32) (n : Int64) (hf : fitS b n = true) : Cg l y_Cor_pack (wl y_Cor_pack b_Cor_pack 6 (some .int)) (rmL 3) D clz (ty4 ti) [.ref co, .int b, .long n] ((CW ad ti u pi ex de xi xb di db fi fb ob reg kq ca va fv R) ++ (KT ti co ob reg kp rc st tr ha)) (fun _ : Unit => some (.int (kBits (cLow b) (cLow b + n) ||| (if kEx (cLow b) (cLow b + n) = false then 0 else 32768)))) (fun _ => ((CW ad ti u pi ex de xi xb di db fi fb ob reg kq ca va fv R) ++ (KT ti co ob reg (kQ (cLow b) (cLow b + n)) rc st tr ha))) (fun _ => True) := by
  refine Cg.ofF (plainFor_of_name (by decide)) (Nat.le_of_ble_eq_true rfl) ?_
  intro p9 e9 s9 m9 b9 me9 c9 ls S hr hlk hl hw
  obtain ⟨hx, hb, hml, hown, hts⟩ := id S
  have hl : lv_has ls 6 [(0, .ref co), (1, .int b), (2, .long n)] := hl
  refine lv_iload_n hx hb d_Cor_pack_0 rfl (lv_at hl 1 rfl) ?_
  refine lv_lload_n hx hb d_Cor_pack_1 rfl (lv_at hl 2 rfl) ?_
  refine q_cr (q_runS (As := [.int b, .long n]) (rest := []) S ((c_Cor_fitsSpace l D (ty4 ti) b n).nil _) (cw_s hts tb_3_74 k_Cor_fitsSpace rfl rfl ⟨by decide, by decide⟩) hw rfl hl.1 rfl (Nat.le_of_ble_eq_true rfl) d_Cor_pack_2 ⟨Nat.zero_le _, Nat.zero_le _⟩) ?_
  refine W.eq (g2 := F0 m9 5 ls [.int (jb (fitS b n))]) rfl ?_
  refine q_ifz_ne S d_Cor_pack_5 rfl (fun h5 => ?_) (fun h5 => ?_)
  · refine lv_iload_n hx hb d_Cor_pack_18 rfl (lv_at hl 1 rfl) ?_
    refine lv_i2l (v := (b.toInt64)) hx hb d_Cor_pack_19 rfl ?_
    refine lv_ldc2 (v := 4294967295) hx hb hown (hts _ tb_3_78) d_Cor_pack_20 ?_
    refine lv_land hx hb d_Cor_pack_23 ?_
    refine q_topl (z := (cLow b)) (rfl) ?_
    refine lv_lstore (lv' := [(4, .long (cLow b)), (0, .ref co), (1, .int b), (2, .long n)]) hx hb d_Cor_pack_24 hl (by decide) rfl (fun ls hl => ?_)
    refine lv_aload_n hx hb d_Cor_pack_26 rfl (lv_at hl 1 rfl) ?_
    refine q_get S hw ly_Cor 69 rfl rfl 3 (by decide) tb_2_70 rfl rfl d_Cor_pack_27 ?_
    refine lv_lload hx hb d_Cor_pack_30 (lv_at hl 0 rfl) ?_
    refine lv_lload hx hb d_Cor_pack_32 (lv_at hl 0 rfl) ?_
    refine lv_lload_n hx hb d_Cor_pack_34 rfl (lv_at hl 3 rfl) ?_
    refine lv_ladd hx hb d_Cor_pack_35 ?_
    refine q_cg (q_runV (As := [.long (cLow b), .long ((cLow b) + n)]) (rest := []) S (Cg.one (c_Pk_fit l D (ty4 ti) (ob 5) kp.1 kp.2.1 kp.2.2.1 kp.2.2.2.1 kp.2.2.2.2 (cLow b) ((cLow b) + n)) 70 rfl) (cw_v hts tb_3_111 k_Pk_fit rfl rfl ⟨by decide, by decide⟩) hw 70 rfl rfl rfl hl.1 rfl (Nat.le_of_ble_eq_true rfl) d_Cor_pack_36 ⟨Nat.zero_le _, Nat.zero_le _⟩) hw (fun z hD => hD.set rfl) (fun z9 H locs hp9 hw => ?_)
    refine W.eq (g2 := F0 m9 39 ls []) rfl ?_
    have hw : Lv _ _ _ _ _ ((CW ad ti u pi ex de xi xb di db fi fb ob reg kq ca va fv R) ++ (KT ti co ob reg (kQ (cLow b) ((cLow b) + n)) rc st tr ha)) _ _ _ := hw
    refine lv_aload_n hx hb d_Cor_pack_39 rfl (lv_at hl 1 rfl) ?_
    refine q_get S hw ly_Cor 69 rfl rfl 3 (by decide) tb_2_70 rfl rfl d_Cor_pack_40 ?_
    refine q_get S hw ly_Pk 70 rfl rfl 0 (by decide) tb_2_34 rfl rfl d_Cor_pack_43 ?_
    refine lv_aload_n hx hb d_Cor_pack_46 rfl (lv_at hl 1 rfl) ?_
    refine q_get S hw ly_Cor 69 rfl rfl 3 (by decide) tb_2_70 rfl rfl d_Cor_pack_47 ?_
    refine q_get S hw ly_Pk 70 rfl rfl 1 (by decide) tb_2_38 rfl rfl d_Cor_pack_50 ?_
    refine q_ifz_eq S d_Cor_pack_53 rfl (fun h53 => ?_) (fun h53 => ?_)
    · refine lv_iconst (v := 0) hx hb d_Cor_pack_61 (by decide) ?_
      refine lv_ior hx hb d_Cor_pack_62 ?_
      exact hw.riz S hr hlk (rfl) d_Cor_pack_63 () (by have h53 : kEx (cLow b) (cLow b + n) = false := h53; simp [kQ, h53]) (trivial) (rfl)
    · refine lv_ldc (v := 32768) hx hb hown (hts _ tb_5_35) d_Cor_pack_56 ?_
      refine lv_goto hx hb d_Cor_pack_58 rfl ?_
      refine lv_ior hx hb d_Cor_pack_62 ?_
      exact hw.riz S hr hlk (rfl) d_Cor_pack_63 () (by have h53 : kEx (cLow b) (cLow b + n) = true := h53; simp [kQ, h53]) (trivial) (rfl)
  · rw [hf] at h5
    exact absurd h5 (by decide)
set_option maxHeartbeats 4000000 in
set_option maxRecDepth 100000 in
theorem c_Cor_root (l : Launch) (D : va_G) (ti : Nat → ClassId) (ad : Nat → Nat) (u : MT) (pi ex de : Nat) (xi xb di db fi fb : Int32) (ob reg : Nat → Nat) (kq : Int32 × Bool × Bool × Int32 × Int64) (ca va fv : Int32) (R : Nat → Cap) (co : Nat) (kp : Int32 × Bool × Bool × Int32 × Int64) (m : Nat) (st tr : Int32) (ha : Bool) (hm : m < 8) (r : Nat) (h1 : 1 ≤ r) (h37 : r < 37) (b n p : Int32) (hf : fitS b n.toInt64 = true) (hp0 : ¬ p < 0) (hp1 : p ≤ 4095) : Cg l y_Cor_root (wl y_Cor_root b_Cor_root 8 (some .int)) (rmL 3) D clz (ty4 ti) [.ref co, .int (nI r), .int b, .int n, .int p] ((CW ad ti u pi ex de xi xb di db fi fb ob reg kq ca va fv R) ++ (KT ti co ob reg kp (nI m) st tr ha)) (fun _ : Unit => some (.int (cbase (rtM b n p) b).toInt32)) (fun _ => ((CW ad ti u pi ex de xi xb di db fi fb ob reg kq ca va fv (rrR R r m b n p)) ++ (KT ti co ob reg (kQ (cLow b) (cLow b + n.toInt64)) (nI (m + 1)) st tr ha))) (fun _ => True) := by
  refine Cg.ofF (plainFor_of_name (by decide)) (Nat.le_of_ble_eq_true rfl) ?_
  intro p9 e9 s9 m9 b9 me9 c9 ls S hr hlk hl hw
  obtain ⟨hx, hb, hml, hown, hts⟩ := id S
  have hl : lv_has ls 8 [(0, .ref co), (1, .int (nI r)), (2, .int b), (3, .int n), (4, .int p)] := hl
  refine lv_iload_n hx hb d_Cor_root_0 rfl (lv_at hl 1 rfl) ?_
  refine lv_iconst (v := 1) hx hb d_Cor_root_1 (by decide) ?_
  refine lv_icmp_lt hx hb d_Cor_root_2 rfl (fun h => absurd h (nI_nlt (a := r) (b := 1) (by omega) (by omega))) (fun _ => ?_)
  refine lv_iload_n hx hb d_Cor_root_5 rfl (lv_at hl 1 rfl) ?_
  refine lv_bipush (v := 37) hx hb d_Cor_root_6 (by decide) ?_
  refine lv_icmp_lt hx hb d_Cor_root_8 rfl (fun _ => ?_) (fun h => absurd h (not_not_intro (nI_lt (a := r) (b := 37) (by omega) (by decide))))
  refine lv_iload_n hx hb d_Cor_root_21 rfl (lv_at hl 2 rfl) ?_
  refine lv_iload_n hx hb d_Cor_root_22 rfl (lv_at hl 3 rfl) ?_
  refine lv_i2l (v := (n.toInt64)) hx hb d_Cor_root_23 rfl ?_
  refine q_cr (q_runS (As := [.int b, .long (n.toInt64)]) (rest := []) S ((c_Cor_fitsSpace l D (ty4 ti) b (n.toInt64)).nil _) (cw_s hts tb_3_74 k_Cor_fitsSpace rfl rfl ⟨by decide, by decide⟩) hw rfl hl.1 rfl (Nat.le_of_ble_eq_true rfl) d_Cor_root_24 ⟨Nat.zero_le _, Nat.zero_le _⟩) ?_
  refine W.eq (g2 := F0 m9 27 ls [.int (jb (fitS b (n.toInt64)))]) rfl ?_
  refine q_ifz_eq S d_Cor_root_27 rfl (fun h27 => ?_) (fun h27 => ?_)
  · rw [hf] at h27
    exact absurd h27 (by decide)
  · refine lv_iload hx hb d_Cor_root_30 (lv_at hl 4 rfl) ?_
    refine lv_if_lt hx hb d_Cor_root_32 rfl (fun h => absurd h (hp0)) (fun _ => ?_)
    refine lv_iload hx hb d_Cor_root_35 (lv_at hl 4 rfl) ?_
    refine lv_sipush (v := 4095) hx hb d_Cor_root_37 (by decide) ?_
    refine lv_icmp_le hx hb d_Cor_root_40 rfl (fun _ => ?_) (fun h => absurd h (not_not_intro hp1))
    refine lv_aload_n hx hb d_Cor_root_53 rfl (lv_at hl 0 rfl) ?_
    refine q_get S hw ly_Cor 69 rfl rfl 6 (by decide) tb_2_73 rfl rfl d_Cor_root_54 ?_
    refine lv_bipush (v := 8) hx hb d_Cor_root_57 (by decide) ?_
    refine lv_icmp_lt hx hb d_Cor_root_59 rfl (fun _ => ?_) (fun h => absurd h (not_not_intro (nI_lt (a := m) (b := 8) (by omega) (by decide))))
    refine lv_iload_n hx hb d_Cor_root_72 rfl (lv_at hl 2 rfl) ?_
    refine lv_i2l (v := (b.toInt64)) hx hb d_Cor_root_73 rfl ?_
    refine lv_ldc2 (v := 4294967295) hx hb hown (hts _ tb_3_78) d_Cor_root_74 ?_
    refine lv_land hx hb d_Cor_root_77 ?_
    refine q_topl (z := (cLow b)) (rfl) ?_
    refine lv_lstore (lv' := [(5, .long (cLow b)), (0, .ref co), (1, .int (nI r)), (2, .int b), (3, .int n), (4, .int p)]) hx hb d_Cor_root_78 hl (by decide) rfl (fun ls hl => ?_)
    refine lv_aload_n hx hb d_Cor_root_80 rfl (lv_at hl 1 rfl) ?_
    refine q_get S hw ly_Cor 69 rfl rfl 3 (by decide) tb_2_70 rfl rfl d_Cor_root_81 ?_
    refine lv_lload hx hb d_Cor_root_84 (lv_at hl 0 rfl) ?_
    refine lv_lload hx hb d_Cor_root_86 (lv_at hl 0 rfl) ?_
    refine lv_iload_n hx hb d_Cor_root_88 rfl (lv_at hl 4 rfl) ?_
    refine lv_i2l (v := (n.toInt64)) hx hb d_Cor_root_89 rfl ?_
    refine lv_ladd hx hb d_Cor_root_90 ?_
    refine q_cg (q_runV (As := [.long (cLow b), .long ((cLow b) + (n.toInt64))]) (rest := []) S (Cg.one (c_Pk_fit l D (ty4 ti) (ob 5) kp.1 kp.2.1 kp.2.2.1 kp.2.2.2.1 kp.2.2.2.2 (cLow b) ((cLow b) + (n.toInt64))) 70 rfl) (cw_v hts tb_3_111 k_Pk_fit rfl rfl ⟨by decide, by decide⟩) hw 70 rfl rfl rfl hl.1 rfl (Nat.le_of_ble_eq_true rfl) d_Cor_root_91 ⟨Nat.zero_le _, Nat.zero_le _⟩) hw (fun z hD => hD.set rfl) (fun z9 H locs hp9 hw => ?_)
    refine W.eq (g2 := F0 m9 94 ls []) rfl ?_
    have hw : Lv _ _ _ _ _ ((CW ad ti u pi ex de xi xb di db fi fb ob reg kq ca va fv R) ++ (KT ti co ob reg (kQ (cLow b) ((cLow b) + (n.toInt64))) (nI m) st tr ha)) _ _ _ := hw
    refine lv_aload_n hx hb d_Cor_root_94 rfl (lv_at hl 1 rfl) ?_
    refine q_get S hw ly_Cor 69 rfl rfl 0 (by decide) tb_2_67 rfl rfl d_Cor_root_95 ?_
    refine q_get S hw ly_Sta 16 rfl rfl 0 (by decide) tb_1_208 rfl rfl d_Cor_root_98 ?_
    refine lv_iload_n hx hb d_Cor_root_101 rfl (lv_at hl 2 rfl) ?_
    refine q_aaldN (k := r) S hw 17 3 rfl rfl (by first | assumption | omega) (by decide) d_Cor_root_102 ?_
    refine lv_astore (lv' := [(7, .ref (reg r)), (5, .long (cLow b)), (0, .ref co), (1, .int (nI r)), (2, .int b), (3, .int n), (4, .int p)]) hx hb d_Cor_root_103 hl (by decide) rfl (fun ls hl => ?_)
    refine lv_aload hx hb d_Cor_root_105 (lv_at hl 0 rfl) ?_
    refine lv_iconst (v := 1) hx hb d_Cor_root_107 (by decide) ?_
    refine lv_iload_n hx hb d_Cor_root_108 rfl (lv_at hl 4 rfl) ?_
    refine lv_iload hx hb d_Cor_root_109 (lv_at hl 6 rfl) ?_
    refine lv_bipush (v := 20) hx hb d_Cor_root_111 (by decide) ?_
    refine lv_ishl hx hb d_Cor_root_113 ?_
    refine lv_ldc (v := 983040) hx hb hown (hts _ tb_3_129) d_Cor_root_114 ?_
    refine lv_ior hx hb d_Cor_root_116 ?_
    refine lv_aload_n hx hb d_Cor_root_117 rfl (lv_at hl 2 rfl) ?_
    refine q_get S hw ly_Cor 69 rfl rfl 3 (by decide) tb_2_70 rfl rfl d_Cor_root_118 ?_
    refine q_get S hw ly_Pk 70 rfl rfl 0 (by decide) tb_2_34 rfl rfl d_Cor_root_121 ?_
    refine lv_ior hx hb d_Cor_root_124 ?_
    refine q_cg (q_runV (As := [.int (jb true), .int b, .int (((p <<< ((20 : Int32) &&& 31)) ||| (983040 : Int32)) ||| ((kQ (cLow b) ((cLow b) + (n.toInt64))).1))]) (rest := []) S ((w_define l D ti ad u pi ex de xi xb di db fi fb ob reg kq ca va fv R (r) (by first | decide | omega) true b (((p <<< ((20 : Int32) &&& 31)) ||| (983040 : Int32)) ||| ((kQ (cLow b) ((cLow b) + (n.toInt64))).1))).front (fun _ => CW_ln) (KT ti co ob reg (kQ (cLow b) ((cLow b) + (n.toInt64))) (nI m) st tr ha)) (cw_v hts tb_2_102 k_Cap_define rfl rfl ⟨by decide, by decide⟩) hw (21 + (r)) (app_at (CW_at (by first | decide | omega))) rfl rfl hl.1 rfl (Nat.le_of_ble_eq_true rfl) d_Cor_root_125 ⟨Nat.zero_le _, Nat.zero_le _⟩) hw (fun z hD => KW_D hD) (fun z9 H locs hp9 hw => ?_)
    refine W.eq (g2 := F0 m9 128 ls []) rfl ?_
    have hw : Lv _ _ _ _ _ ((CW ad ti u pi ex de xi xb di db fi fb ob reg kq ca va fv (va_up R (r) ((true, b, (((p <<< ((20 : Int32) &&& 31)) ||| (983040 : Int32)) ||| ((kQ (cLow b) ((cLow b) + (n.toInt64))).1))) : Cap))) ++ (KT ti co ob reg (kQ (cLow b) ((cLow b) + (n.toInt64))) (nI m) st tr ha)) _ _ _ := hw
    refine lv_aload_n hx hb d_Cor_root_128 rfl (lv_at hl 2 rfl) ?_
    refine q_get S hw ly_Cor 69 rfl rfl 5 (by decide) tb_2_72 rfl rfl d_Cor_root_129 ?_
    refine lv_aload_n hx hb d_Cor_root_132 rfl (lv_at hl 2 rfl) ?_
    refine q_get S hw ly_Cor 69 rfl rfl 6 (by decide) tb_2_73 rfl rfl d_Cor_root_133 ?_
    refine q_topi (z := (nI m)) (rfl) ?_
    refine q_aaldN (k := m) S hw 71 3 rfl rfl (by first | assumption | omega) (by decide) d_Cor_root_136 ?_
    refine lv_aload hx hb d_Cor_root_137 (lv_at hl 0 rfl) ?_
    refine q_cg (q_runV (As := [.ref (reg r)]) (rest := []) S ((w_become l D ti ad u pi ex de xi xb di db fi fb ob reg kq ca va fv (va_up R (r) ((true, b, (((p <<< ((20 : Int32) &&& 31)) ||| (983040 : Int32)) ||| ((kQ (cLow b) ((cLow b) + (n.toInt64))).1))) : Cap)) (40 + m) (by first | decide | omega) (r) (by first | decide | omega) (by first | decide | omega)).front (fun _ => CW_ln) (KT ti co ob reg (kQ (cLow b) ((cLow b) + (n.toInt64))) (nI m) st tr ha)) (cw_v hts tb_3_130 k_Cap_become rfl rfl ⟨by decide, by decide⟩) hw (21 + (40 + m)) (app_at (CW_at (by first | decide | omega))) rfl rfl hl.1 rfl (Nat.le_of_ble_eq_true rfl) d_Cor_root_139 ⟨Nat.zero_le _, Nat.zero_le _⟩) hw (fun z hD => KW_D hD) (fun z9 H locs hp9 hw => ?_)
    refine W.eq (g2 := F0 m9 142 ls []) rfl ?_
    have hw : Lv _ _ _ _ _ ((CW ad ti u pi ex de xi xb di db fi fb ob reg kq ca va fv (va_up (va_up R (r) ((true, b, (((p <<< ((20 : Int32) &&& 31)) ||| (983040 : Int32)) ||| ((kQ (cLow b) ((cLow b) + (n.toInt64))).1))) : Cap)) (40 + m) ((va_up R (r) ((true, b, (((p <<< ((20 : Int32) &&& 31)) ||| (983040 : Int32)) ||| ((kQ (cLow b) ((cLow b) + (n.toInt64))).1))) : Cap)) r))) ++ (KT ti co ob reg (kQ (cLow b) ((cLow b) + (n.toInt64))) (nI m) st tr ha)) _ _ _ := hw
    refine lv_aload_n hx hb d_Cor_root_142 rfl (lv_at hl 2 rfl) ?_
    refine lv_dup hx hb d_Cor_root_143 rfl ?_
    refine q_get S hw ly_Cor 69 rfl rfl 6 (by decide) tb_2_73 rfl rfl d_Cor_root_144 ?_
    refine lv_iconst (v := 1) hx hb d_Cor_root_147 (by decide) ?_
    refine lv_iadd hx hb d_Cor_root_148 ?_
    refine q_put (v := .int ((nI m) + (1 : Int32))) S hw ly_Cor t_Cor t_Cor_ok n_Cor 69 rfl rfl 6 (by decide) tb_2_73 rfl rfl rfl rfl (Nat.le_of_ble_eq_true rfl) d_Cor_root_149 (fun H locs hw => ?_)
    have hw : Lv _ _ _ _ _ ((CW ad ti u pi ex de xi xb di db fi fb ob reg kq ca va fv (va_up (va_up R (r) ((true, b, (((p <<< ((20 : Int32) &&& 31)) ||| (983040 : Int32)) ||| ((kQ (cLow b) ((cLow b) + (n.toInt64))).1))) : Cap)) (40 + m) ((va_up R (r) ((true, b, (((p <<< ((20 : Int32) &&& 31)) ||| (983040 : Int32)) ||| ((kQ (cLow b) ((cLow b) + (n.toInt64))).1))) : Cap)) r))) ++ (KT ti co ob reg (kQ (cLow b) ((cLow b) + (n.toInt64))) ((nI m) + (1 : Int32)) st tr ha)) _ _ _ := hw
    refine lv_aload hx hb d_Cor_root_152 (lv_at hl 0 rfl) ?_
    refine q_get S hw ly_Cap (21 + (r)) (app_at (CW_at (by first | decide | omega))) rfl 3 (by decide) tb_1_57 rfl rfl d_Cor_root_154 ?_
    refine lv_l2i (v := ((cbase ((va_up (va_up R (r) ((true, b, (((p <<< ((20 : Int32) &&& 31)) ||| (983040 : Int32)) ||| ((kQ (cLow b) ((cLow b) + (n.toInt64))).1))) : Cap)) (40 + m) ((va_up R (r) ((true, b, (((p <<< ((20 : Int32) &&& 31)) ||| (983040 : Int32)) ||| ((kQ (cLow b) ((cLow b) + (n.toInt64))).1))) : Cap)) r)) r).2.2 ((va_up (va_up R (r) ((true, b, (((p <<< ((20 : Int32) &&& 31)) ||| (983040 : Int32)) ||| ((kQ (cLow b) ((cLow b) + (n.toInt64))).1))) : Cap)) (40 + m) ((va_up R (r) ((true, b, (((p <<< ((20 : Int32) &&& 31)) ||| (983040 : Int32)) ||| ((kQ (cLow b) ((cLow b) + (n.toInt64))).1))) : Cap)) r)) r).2.1).toInt32)) hx hb d_Cor_root_157 rfl ?_
    exact hw.riz S hr hlk (rfl) d_Cor_root_158 () (by rw [va_up_ne _ _ (show r ≠ 40 + m by omega), va_up_self]; rfl) (trivial) (by rw [nI_succ, va_up_self]; rfl)
set_option maxHeartbeats 4000000 in
set_option maxRecDepth 100000 in
theorem c_Cor_word (l : Launch) (D : va_G) (ti : Nat → ClassId) (ad : Nat → Nat) (u : MT) (pi ex de : Nat) (xi xb di db fi fb : Int32) (ob reg : Nat → Nat) (kq : Int32 × Bool × Bool × Int32 × Int64) (ca va fv : Int32) (R : Nat → Cap) (co : Nat) (kp : Int32 × Bool × Bool × Int32 × Int64) (rc st tr : Int32) (ha : Bool) (w g : Nat → Int32) (hM : MIt u w g) (hD : PF di db w) (hF : PF fi fb w) (i : Nat) (hi : i < 4096) (x : Int32) : Cg l y_Cor_word (wl y_Cor_word b_Cor_word 4 (some .int)) (rmL 3) D clz (ty4 ti) [.ref co, .int (nI i), .int x] ((CW ad ti u pi ex de xi xb di db fi fb ob reg kq ca va fv R) ++ (KT ti co ob reg kp rc st tr ha)) (fun z : MT => some (.int (w i))) (fun z => ((CW ad ti z pi ex de xi xb (pSq di fi i di) db (pSq di fi i fi) fb ob reg kq ca va fv R) ++ (KT ti co ob reg kp rc st tr ha))) (fun z => MIt z (upd w i x) (gOff g i) ∧ PF (pSq di fi i di) db (upd w i x) ∧ PF (pSq di fi i fi) fb (upd w i x)) := by
  refine Cg.ofF (plainFor_of_name (by decide)) (Nat.le_of_ble_eq_true rfl) ?_
  intro p9 e9 s9 m9 b9 me9 c9 ls S hr hlk hl hw
  obtain ⟨hx, hb, hml, hown, hts⟩ := id S
  have hl : lv_has ls 4 [(0, .ref co), (1, .int (nI i)), (2, .int x)] := hl
  refine lv_iload_n hx hb d_Cor_word_0 rfl (lv_at hl 1 rfl) ?_
  refine q_cr (q_runS (As := [.int (nI i)]) (rest := []) S ((c_Cor_isWord l D (ty4 ti) (nI i)).nil _) (cw_s hts tb_2_194 k_Cor_isWord rfl rfl ⟨by decide, by decide⟩) hw rfl hl.1 rfl (Nat.le_of_ble_eq_true rfl) d_Cor_word_1 ⟨Nat.zero_le _, Nat.zero_le _⟩) ?_
  refine W.eq (g2 := F0 m9 4 ls [.int (jb (isW (nI i)))]) rfl ?_
  refine q_ifz_ne S d_Cor_word_4 rfl (fun h4 => ?_) (fun h4 => ?_)
  · refine lv_aload_n hx hb d_Cor_word_17 rfl (lv_at hl 0 rfl) ?_
    refine q_get S hw ly_Cor 69 rfl rfl 0 (by decide) tb_2_67 rfl rfl d_Cor_word_18 ?_
    refine q_get S hw ly_Sta 16 rfl rfl 3 (by decide) tb_1_218 rfl rfl d_Cor_word_21 ?_
    refine lv_iload_n hx hb d_Cor_word_24 rfl (lv_at hl 1 rfl) ?_
    refine q_cg (q_runV (As := [.int (nI i)]) (rest := []) S ((p_readWord l D ti ad u w g hM i (by first | assumption | omega) _).front (fun _ => (by rw [List.length_append, List.length_append]; rfl)) (KT ti co ob reg kp rc st tr ha)) (cw_v hts tb_3_25 k_Mem_readWord rfl rfl ⟨by decide, by decide⟩) hw 0 rfl rfl rfl hl.1 rfl (Nat.le_of_ble_eq_true rfl) d_Cor_word_25 ⟨Nat.zero_le _, Nat.zero_le _⟩) hw (fun z hD => KW_D hD) (fun u78 H locs hM79 hw => ?_)
    refine W.eq (g2 := F0 m9 28 ls [.int (w i)]) rfl ?_
    have hw : Lv _ _ _ _ _ ((CW ad ti u78 pi ex de xi xb di db fi fb ob reg kq ca va fv R) ++ (KT ti co ob reg kp rc st tr ha)) _ _ _ := hw
    have hM79 : MIt u78 w g := hM79
    refine lv_istore_n (lv' := [(3, .int (w i)), (0, .ref co), (1, .int (nI i)), (2, .int x)]) hx hb d_Cor_word_28 rfl hl (by decide) rfl (fun ls hl => ?_)
    refine lv_aload_n hx hb d_Cor_word_29 rfl (lv_at hl 1 rfl) ?_
    refine q_get S hw ly_Cor 69 rfl rfl 0 (by decide) tb_2_67 rfl rfl d_Cor_word_30 ?_
    refine q_get S hw ly_Sta 16 rfl rfl 3 (by decide) tb_1_218 rfl rfl d_Cor_word_33 ?_
    refine lv_iload_n hx hb d_Cor_word_36 rfl (lv_at hl 2 rfl) ?_
    refine lv_iload_n hx hb d_Cor_word_37 rfl (lv_at hl 3 rfl) ?_
    refine q_cg (q_runV (As := [.int (nI i), .int x]) (rest := []) S ((p_writeWord l D ti ad u78 w g hM79 i (by first | assumption | omega) x _).front (fun _ => (by rw [List.length_append, List.length_append]; rfl)) (KT ti co ob reg kp rc st tr ha)) (cw_v hts tb_3_56 k_Mem_writeWord rfl rfl ⟨by decide, by decide⟩) hw 0 rfl rfl rfl hl.1 rfl (Nat.le_of_ble_eq_true rfl) d_Cor_word_38 ⟨Nat.zero_le _, Nat.zero_le _⟩) hw (fun z hD => KW_D hD) (fun u80 H locs hM81 hw => ?_)
    refine W.eq (g2 := F0 m9 41 ls []) rfl ?_
    have hw : Lv _ _ _ _ _ ((CW ad ti u80 pi ex de xi xb di db fi fb ob reg kq ca va fv R) ++ (KT ti co ob reg kp rc st tr ha)) _ _ _ := hw
    have hM81 : MIt u80 (upd w i x) (gOff g i) := hM81
    refine lv_aload_n hx hb d_Cor_word_41 rfl (lv_at hl 1 rfl) ?_
    refine q_get S hw ly_Cor 69 rfl rfl 0 (by decide) tb_2_67 rfl rfl d_Cor_word_42 ?_
    refine q_get S hw ly_Sta 16 rfl rfl 4 (by decide) tb_1_221 rfl rfl d_Cor_word_45 ?_
    refine lv_iload_n hx hb d_Cor_word_48 rfl (lv_at hl 2 rfl) ?_
    refine q_cg (q_runV (As := [.int (nI i)]) (rest := []) S ((w_squash l D ti ad u80 pi ex de xi xb di db fi fb ob reg kq ca va fv R i).front (fun _ => CW_ln) (KT ti co ob reg kp rc st tr ha)) (cw_v hts tb_3_60 k_Pip_squash rfl rfl ⟨by decide, by decide⟩) hw 13 rfl rfl rfl hl.1 rfl (Nat.le_of_ble_eq_true rfl) d_Cor_word_49 ⟨Nat.zero_le _, Nat.zero_le _⟩) hw (fun z hD => KW_D hD) (fun z9 H locs hp9 hw => ?_)
    refine W.eq (g2 := F0 m9 52 ls []) rfl ?_
    have hw : Lv _ _ _ _ _ ((CW ad ti u80 pi ex de xi xb (pSq di fi i di) db (pSq di fi i fi) fb ob reg kq ca va fv R) ++ (KT ti co ob reg kp rc st tr ha)) _ _ _ := hw
    refine lv_iload_n hx hb d_Cor_word_52 rfl (lv_at hl 0 rfl) ?_
    exact hw.riz S hr hlk (rfl) d_Cor_word_53 u80 (rfl) (⟨hM81, hD.sq1 upd_off, hF.sq2 upd_off⟩) (rfl)
  · rw [isW_ok hi] at h4
    exact absurd h4 (by decide)
set_option maxHeartbeats 4000000 in
set_option maxRecDepth 100000 in
theorem c_Cor_grown (l : Launch) (D : va_G) (ti : Nat → ClassId) (ad : Nat → Nat) (u : MT) (pi ex de : Nat) (xi xb di db fi fb : Int32) (ob reg : Nat → Nat) (kq : Int32 × Bool × Bool × Int32 × Int64) (ca va fv : Int32) (R : Nat → Cap) (co : Nat) (kp : Int32 × Bool × Bool × Int32 × Int64) (m : Nat) (st tr : Int32) (ha : Bool) (hm : m ≤ 8) (w g : Nat → Int32) (hM : MIt u w g) : Cg l y_Cor_grown (wl y_Cor_grown b_Cor_grown 3 (some .int)) (rmL 3) D clz (ty4 ti) [.ref co] ((CW ad ti u pi ex de xi xb di db fi fb ob reg kq ca va fv R) ++ (KT ti co ob reg kp (nI m) st tr ha)) (fun z : Cap => some (.int (gr2 R m w g 2048))) (fun z => ((CW ad ti u pi ex de xi xb di db fi fb ob reg kq ca va fv (va_up R 39 z)) ++ (KT ti co ob reg kp (nI m) st tr ha))) (fun _ => True) := by
  refine Cg.ofF (plainFor_of_name (by decide)) (Nat.le_of_ble_eq_true rfl) ?_
  intro p9 e9 s9 m9 b9 me9 c9 ls S hr hlk hl hw
  obtain ⟨hx, hb, hml, hown, hts⟩ := id S
  have hl : lv_has ls 3 [(0, .ref co)] := hl
  refine lv_iconst (v := 0) hx hb d_Cor_grown_0 (by decide) ?_
  refine lv_istore_n (lv' := [(1, .int (0 : Int32)), (0, .ref co)]) hx hb d_Cor_grown_1 rfl hl (by decide) rfl (fun ls hl => ?_)
  refine lv_iconst (v := 0) hx hb d_Cor_grown_2 (by decide) ?_
  refine lv_istore_n (lv' := [(2, .int (0 : Int32)), (1, .int (0 : Int32)), (0, .ref co)]) hx hb d_Cor_grown_3 rfl hl (by decide) rfl (fun ls hl => ?_)
  refine q_loop (Z := Nat) (pcL := 4) (st := []) (nL := 3) (fun z => [(2, .int (nI z)), (1, .int (gr1 R m z)), (0, .ref co)]) (fun z => z ≤ 37) (fun z => 37 - z) (fun z ls hI4 hl IH4 => ?_) 0 (by omega) (q_loc (l' := [(2, .int (nI 0)), (1, .int (gr1 R m 0)), (0, .ref co)]) (lv_sub (l' := [(2, .int (0 : Int32)), (1, .int (0 : Int32)), (0, .ref co)]) hl [0, 1, 2] rfl) (rfl))
  have hl : lv_has ls 3 [(2, .int (nI z)), (1, .int (gr1 R m z)), (0, .ref co)] := hl
  refine lv_iload_n hx hb d_Cor_grown_4 rfl (lv_at hl 0 rfl) ?_
  refine lv_bipush (v := 37) hx hb d_Cor_grown_5 (by decide) ?_
  refine lv_icmp_ge hx hb d_Cor_grown_7 rfl (fun h7 => ?_) (fun h7 => ?_)
  · refine lv_iconst (v := 0) hx hb d_Cor_grown_40 (by decide) ?_
    refine lv_istore_n (lv' := [(2, .int (0 : Int32)), (1, .int (gr1 R m z)), (0, .ref co)]) hx hb d_Cor_grown_41 rfl hl (by decide) rfl (fun ls hl => ?_)
    refine q_loopH (Z := Nat × Cap) (pcL := 42) (st := []) (nL := 3) (fun z => [(2, .int (nI (2 * z.1))), (1, .int (gr2 R m w g z.1)), (0, .ref co)]) (fun z => ((CW ad ti u pi ex de xi xb di db fi fb ob reg kq ca va fv (va_up R 39 z.2)) ++ (KT ti co ob reg kp (nI m) st tr ha))) (fun z => z.1 ≤ 2048) (fun z => 2048 - z.1) (fun z H locs ls hI42 hw hl IH42 => ?_) (0, R 39) (Nat.zero_le _) (hw.same (by rw [up_id])) (q_loc (l' := [(2, .int (nI (2 * 0))), (1, .int (gr2 R m w g 0)), (0, .ref co)]) (lv_sub (l' := [(2, .int (0 : Int32)), (1, .int (gr1 R m z)), (0, .ref co)]) hl [0, 1, 2] rfl) (by have h9 : z = 37 := (by have := (nI_leI (a := 37) (b := z) (by omega) (by omega)).mp h7; omega); rw [h9]; rfl))
    have hw : Lv _ _ _ _ _ ((CW ad ti u pi ex de xi xb di db fi fb ob reg kq ca va fv (va_up R 39 z.2)) ++ (KT ti co ob reg kp (nI m) st tr ha)) _ _ _ := hw
    have hl : lv_has ls 3 [(2, .int (nI (2 * z.1))), (1, .int (gr2 R m w g z.1)), (0, .ref co)] := hl
    refine lv_iload_n hx hb d_Cor_grown_42 rfl (lv_at hl 0 rfl) ?_
    refine lv_sipush (v := 4096) hx hb d_Cor_grown_43 (by decide) ?_
    refine lv_icmp_ge hx hb d_Cor_grown_46 rfl (fun h46 => ?_) (fun h46 => ?_)
    · refine lv_iload_n hx hb d_Cor_grown_123 rfl (lv_at hl 1 rfl) ?_
      exact hw.riz S hr hlk (rfl) d_Cor_grown_124 z.2 (by have h9 : z.1 = 2048 := (by have := (nI_leI (a := 4096) (b := 2 * z.1) (by omega) (by omega)).mp h46; omega); rw [h9]) (trivial) (rfl)
    · have hI42 : z.1 ≤ 2048 := hI42
      have hz : z.1 < 2048 := by have := lt_nge2 (c := 4096) (k := 2 * z.1) (by omega) h46; omega
      refine lv_aload_n hx hb d_Cor_grown_49 rfl (lv_at hl 2 rfl) ?_
      refine q_get S hw ly_Cor 69 rfl rfl 0 (by decide) tb_2_67 rfl rfl d_Cor_grown_50 ?_
      refine q_get S hw ly_Sta 16 rfl rfl 3 (by decide) tb_1_218 rfl rfl d_Cor_grown_53 ?_
      refine lv_iload_n hx hb d_Cor_grown_56 rfl (lv_at hl 0 rfl) ?_
      refine q_cr (q_runV (As := [.int (nI (2 * z.1))]) (rest := []) S ((p_seenTag l D ti ad u w g hM (2 * z.1) (by first | assumption | omega) _).front (KT ti co ob reg kp (nI m) st tr ha)) (cw_v hts tb_2_135 k_Mem_seenTag rfl rfl ⟨by decide, by decide⟩) hw 0 rfl rfl rfl hl.1 rfl (Nat.le_of_ble_eq_true rfl) d_Cor_grown_57 ⟨Nat.zero_le _, Nat.zero_le _⟩) ?_
      refine W.eq (g2 := F0 m9 60 ls [.int (jb (gTag g (2 * z.1)))]) rfl ?_
      refine q_ifz_eq S d_Cor_grown_60 rfl (fun h60 => ?_) (fun h60 => ?_)
      · refine lv_iinc (k := 0) (v := ((nI (2 * z.1)) + (2 : Int32))) (lv' := [(2, .int ((nI (2 * z.1)) + (2 : Int32))), (1, .int (gr2 R m w g z.1)), (0, .ref co)]) hx hb d_Cor_grown_117 hl rfl rfl (by decide) rfl (fun ls hl => ?_)
        refine lv_goto hx hb d_Cor_grown_120 rfl ?_
        exact IH42 (z.1 + 1, z.2) _ _ _ (by show z.1 + 1 ≤ 2048; omega) (by show 2048 - (z.1 + 1) < 2048 - z.1; omega) hw (q_loc (l' := [(2, .int (nI (2 * (z.1 + 1)))), (1, .int (gr2 R m w g (z.1 + 1))), (0, .ref co)]) (lv_sub (l' := [(2, .int ((nI (2 * z.1)) + (2 : Int32))), (1, .int (gr2 R m w g z.1)), (0, .ref co)]) hl [0, 1, 2] rfl) (by simp [gr2, Nat.mul_add, ← nI_add, h60] <;> rfl))
      · refine lv_aload_n hx hb d_Cor_grown_63 rfl (lv_at hl 2 rfl) ?_
        refine q_get S hw ly_Cor 69 rfl rfl 4 (by decide) tb_2_71 rfl rfl d_Cor_grown_64 ?_
        refine lv_iconst (v := 1) hx hb d_Cor_grown_67 (by decide) ?_
        refine lv_aload_n hx hb d_Cor_grown_68 rfl (lv_at hl 2 rfl) ?_
        refine q_get S hw ly_Cor 69 rfl rfl 0 (by decide) tb_2_67 rfl rfl d_Cor_grown_69 ?_
        refine q_get S hw ly_Sta 16 rfl rfl 3 (by decide) tb_1_218 rfl rfl d_Cor_grown_72 ?_
        refine lv_iload_n hx hb d_Cor_grown_75 rfl (lv_at hl 0 rfl) ?_
        refine q_cr (q_runV (As := [.int (nI (2 * z.1))]) (rest := [.int (1 : Int32), .ref (reg 39)]) S ((p_seenWord l D ti ad u w g hM (2 * z.1) (by first | assumption | omega) _).front (KT ti co ob reg kp (nI m) st tr ha)) (cw_v hts tb_2_154 k_Mem_seenWord rfl rfl ⟨by decide, by decide⟩) hw 0 rfl rfl rfl hl.1 rfl (Nat.le_of_ble_eq_true rfl) d_Cor_grown_76 ⟨Nat.zero_le _, Nat.zero_le _⟩) ?_
        refine W.eq (g2 := F0 m9 79 ls [.int (w (2 * z.1)), .int (1 : Int32), .ref (reg 39)]) rfl ?_
        refine lv_aload_n hx hb d_Cor_grown_79 rfl (lv_at hl 2 rfl) ?_
        refine q_get S hw ly_Cor 69 rfl rfl 0 (by decide) tb_2_67 rfl rfl d_Cor_grown_80 ?_
        refine q_get S hw ly_Sta 16 rfl rfl 3 (by decide) tb_1_218 rfl rfl d_Cor_grown_83 ?_
        refine lv_iload_n hx hb d_Cor_grown_86 rfl (lv_at hl 0 rfl) ?_
        refine lv_iconst (v := 1) hx hb d_Cor_grown_87 (by decide) ?_
        refine lv_iadd hx hb d_Cor_grown_88 ?_
        refine q_topi (z := nI ((2 * z.1) + 1)) (nI_add (2 * z.1) 1) ?_
        refine q_cr (q_runV (As := [.int (nI ((2 * z.1) + 1))]) (rest := [.int (w (2 * z.1)), .int (1 : Int32), .ref (reg 39)]) S ((p_seenWord l D ti ad u w g hM ((2 * z.1) + 1) (by first | assumption | omega) _).front (KT ti co ob reg kp (nI m) st tr ha)) (cw_v hts tb_2_154 k_Mem_seenWord rfl rfl ⟨by decide, by decide⟩) hw 0 rfl rfl rfl hl.1 rfl (Nat.le_of_ble_eq_true rfl) d_Cor_grown_89 ⟨Nat.zero_le _, Nat.zero_le _⟩) ?_
        refine W.eq (g2 := F0 m9 92 ls [.int (w ((2 * z.1) + 1)), .int (w (2 * z.1)), .int (1 : Int32), .ref (reg 39)]) rfl ?_
        refine lv_ldc (v := 1000194) hx hb hown (hts _ tb_2_158) d_Cor_grown_92 ?_
        refine lv_ixor hx hb d_Cor_grown_94 ?_
        refine q_cg (q_runV (As := [.int (jb true), .int (w (2 * z.1)), .int ((w ((2 * z.1) + 1)) ^^^ (1000194 : Int32))]) (rest := []) S ((w_define l D ti ad u pi ex de xi xb di db fi fb ob reg kq ca va fv (va_up R 39 z.2) (39) (by first | decide | omega) true (w (2 * z.1)) ((w ((2 * z.1) + 1)) ^^^ (1000194 : Int32))).front (fun _ => CW_ln) (KT ti co ob reg kp (nI m) st tr ha)) (cw_v hts tb_2_102 k_Cap_define rfl rfl ⟨by decide, by decide⟩) hw (21 + (39)) (app_at (CW_at (by first | decide | omega))) rfl rfl hl.1 rfl (Nat.le_of_ble_eq_true rfl) d_Cor_grown_95 ⟨Nat.zero_le _, Nat.zero_le _⟩) hw (fun z hD => KW_D hD) (fun z9 H locs hp9 hw => ?_)
        refine W.eq (g2 := F0 m9 98 ls []) rfl ?_
        have hw : Lv _ _ _ _ _ ((CW ad ti u pi ex de xi xb di db fi fb ob reg kq ca va fv (va_up (va_up R 39 z.2) (39) ((true, (w (2 * z.1)), ((w ((2 * z.1) + 1)) ^^^ (1000194 : Int32))) : Cap))) ++ (KT ti co ob reg kp (nI m) st tr ha)) _ _ _ := hw
        refine lv_iload_n hx hb d_Cor_grown_98 rfl (lv_at hl 1 rfl) ?_
        refine lv_aload_n hx hb d_Cor_grown_99 rfl (lv_at hl 2 rfl) ?_
        refine lv_aload_n hx hb d_Cor_grown_100 rfl (lv_at hl 2 rfl) ?_
        refine q_get S hw ly_Cor 69 rfl rfl 4 (by decide) tb_2_71 rfl rfl d_Cor_grown_101 ?_
        refine q_cr (q_runV (As := [.ref (reg 39)]) (rest := [.int (gr2 R m w g z.1)]) S (c_Cor_isOutsideRoots l D ti ad u pi ex de xi xb di db fi fb ob reg kq ca va fv (va_up (va_up R 39 z.2) (39) ((true, (w (2 * z.1)), ((w ((2 * z.1) + 1)) ^^^ (1000194 : Int32))) : Cap)) co kp m st tr ha hm (39) (by first | decide | omega)) (cw_v hts tb_2_123 k_Cor_isOutsideRoots rfl rfl ⟨by decide, by decide⟩) hw 69 rfl rfl rfl hl.1 rfl (Nat.le_of_ble_eq_true rfl) d_Cor_grown_104 ⟨Nat.zero_le _, Nat.zero_le _⟩) ?_
        refine W.eq (g2 := F0 m9 107 ls [.int (jb (oOut (va_up (va_up R 39 z.2) (39) ((true, (w (2 * z.1)), ((w ((2 * z.1) + 1)) ^^^ (1000194 : Int32))) : Cap)) m ((va_up (va_up R 39 z.2) (39) ((true, (w (2 * z.1)), ((w ((2 * z.1) + 1)) ^^^ (1000194 : Int32))) : Cap)) 39))), .int (gr2 R m w g z.1)]) rfl ?_
        refine q_topi (z := jb (oOut R m (true, w (2 * z.1), w (2 * z.1 + 1) ^^^ 1000194))) (by rw [va_up_self, oOut_39, oOut_39]) ?_
        refine q_ifz_eq S d_Cor_grown_107 rfl (fun h107 => ?_) (fun h107 => ?_)
        · refine lv_iconst (v := 0) hx hb d_Cor_grown_114 (by decide) ?_
          refine lv_iadd hx hb d_Cor_grown_115 ?_
          refine lv_istore_n (lv' := [(1, .int ((gr2 R m w g z.1) + (0 : Int32))), (2, .int (nI (2 * z.1))), (0, .ref co)]) hx hb d_Cor_grown_116 rfl hl (by decide) rfl (fun ls hl => ?_)
          refine lv_iinc (k := 1) (v := ((nI (2 * z.1)) + (2 : Int32))) (lv' := [(2, .int ((nI (2 * z.1)) + (2 : Int32))), (1, .int ((gr2 R m w g z.1) + (0 : Int32))), (0, .ref co)]) hx hb d_Cor_grown_117 hl rfl rfl (by decide) rfl (fun ls hl => ?_)
          refine lv_goto hx hb d_Cor_grown_120 rfl ?_
          exact IH42 (z.1 + 1, (true, w (2 * z.1), w (2 * z.1 + 1) ^^^ 1000194)) _ _ _ (by show z.1 + 1 ≤ 2048; omega) (by show 2048 - (z.1 + 1) < 2048 - z.1; omega) (hw.same (by rw [up_up])) (q_loc (l' := [(2, .int (nI (2 * (z.1 + 1)))), (1, .int (gr2 R m w g (z.1 + 1))), (0, .ref co)]) (lv_sub (l' := [(2, .int ((nI (2 * z.1)) + (2 : Int32))), (1, .int ((gr2 R m w g z.1) + (0 : Int32))), (0, .ref co)]) hl [0, 1, 2] rfl) (by simp [gr2, Nat.mul_add, ← nI_add, h60, h107] <;> rfl))
        · refine lv_iconst (v := 1) hx hb d_Cor_grown_110 (by decide) ?_
          refine lv_goto hx hb d_Cor_grown_111 rfl ?_
          refine lv_iadd hx hb d_Cor_grown_115 ?_
          refine lv_istore_n (lv' := [(1, .int ((gr2 R m w g z.1) + (1 : Int32))), (2, .int (nI (2 * z.1))), (0, .ref co)]) hx hb d_Cor_grown_116 rfl hl (by decide) rfl (fun ls hl => ?_)
          refine lv_iinc (k := 1) (v := ((nI (2 * z.1)) + (2 : Int32))) (lv' := [(2, .int ((nI (2 * z.1)) + (2 : Int32))), (1, .int ((gr2 R m w g z.1) + (1 : Int32))), (0, .ref co)]) hx hb d_Cor_grown_117 hl rfl rfl (by decide) rfl (fun ls hl => ?_)
          refine lv_goto hx hb d_Cor_grown_120 rfl ?_
          exact IH42 (z.1 + 1, (true, w (2 * z.1), w (2 * z.1 + 1) ^^^ 1000194)) _ _ _ (by show z.1 + 1 ≤ 2048; omega) (by show 2048 - (z.1 + 1) < 2048 - z.1; omega) (hw.same (by rw [up_up])) (q_loc (l' := [(2, .int (nI (2 * (z.1 + 1)))), (1, .int (gr2 R m w g (z.1 + 1))), (0, .ref co)]) (lv_sub (l' := [(2, .int ((nI (2 * z.1)) + (2 : Int32))), (1, .int ((gr2 R m w g z.1) + (1 : Int32))), (0, .ref co)]) hl [0, 1, 2] rfl) (by simp [gr2, Nat.mul_add, ← nI_add, h60, h107] <;> rfl))
  · have hz := lt_nge (c := 37) (by omega) hI4 h7
    refine lv_iload_n hx hb d_Cor_grown_10 rfl (lv_at hl 1 rfl) ?_
    refine lv_aload_n hx hb d_Cor_grown_11 rfl (lv_at hl 2 rfl) ?_
    refine lv_aload_n hx hb d_Cor_grown_12 rfl (lv_at hl 2 rfl) ?_
    refine q_get S hw ly_Cor 69 rfl rfl 0 (by decide) tb_2_67 rfl rfl d_Cor_grown_13 ?_
    refine q_get S hw ly_Sta 16 rfl rfl 0 (by decide) tb_1_208 rfl rfl d_Cor_grown_16 ?_
    refine lv_iload_n hx hb d_Cor_grown_19 rfl (lv_at hl 0 rfl) ?_
    refine q_aaldN (k := z) S hw 17 3 rfl rfl (by first | assumption | omega) (by decide) d_Cor_grown_20 ?_
    refine q_cr (q_runV (As := [.ref (reg z)]) (rest := [.int (gr1 R m z)]) S (c_Cor_isOutsideRoots l D ti ad u pi ex de xi xb di db fi fb ob reg kq ca va fv R co kp m st tr ha hm (z) (by first | decide | omega)) (cw_v hts tb_2_123 k_Cor_isOutsideRoots rfl rfl ⟨by decide, by decide⟩) hw 69 rfl rfl rfl hl.1 rfl (Nat.le_of_ble_eq_true rfl) d_Cor_grown_21 ⟨Nat.zero_le _, Nat.zero_le _⟩) ?_
    refine W.eq (g2 := F0 m9 24 ls [.int (jb (oOut R m (R z))), .int (gr1 R m z)]) rfl ?_
    refine q_ifz_eq S d_Cor_grown_24 rfl (fun h24 => ?_) (fun h24 => ?_)
    · refine lv_iconst (v := 0) hx hb d_Cor_grown_31 (by decide) ?_
      refine lv_iadd hx hb d_Cor_grown_32 ?_
      refine lv_istore_n (lv' := [(1, .int ((gr1 R m z) + (0 : Int32))), (2, .int (nI z)), (0, .ref co)]) hx hb d_Cor_grown_33 rfl hl (by decide) rfl (fun ls hl => ?_)
      refine lv_iinc (k := 1) (v := (nI (z + 1))) (lv' := [(2, .int (nI (z + 1))), (1, .int ((gr1 R m z) + (0 : Int32))), (0, .ref co)]) hx hb d_Cor_grown_34 hl rfl (iinc1 z) (by decide) rfl (fun ls hl => ?_)
      refine lv_goto hx hb d_Cor_grown_37 rfl ?_
      exact IH4 (z + 1) _ (by omega) (by omega) (q_loc (l' := [(2, .int (nI (z + 1))), (1, .int (gr1 R m (z + 1))), (0, .ref co)]) (lv_sub (l' := [(2, .int (nI (z + 1))), (1, .int ((gr1 R m z) + (0 : Int32))), (0, .ref co)]) hl [0, 1, 2] rfl) (by simp [gr1, h24]))
    · refine lv_iconst (v := 1) hx hb d_Cor_grown_27 (by decide) ?_
      refine lv_goto hx hb d_Cor_grown_28 rfl ?_
      refine lv_iadd hx hb d_Cor_grown_32 ?_
      refine lv_istore_n (lv' := [(1, .int ((gr1 R m z) + (1 : Int32))), (2, .int (nI z)), (0, .ref co)]) hx hb d_Cor_grown_33 rfl hl (by decide) rfl (fun ls hl => ?_)
      refine lv_iinc (k := 1) (v := (nI (z + 1))) (lv' := [(2, .int (nI (z + 1))), (1, .int ((gr1 R m z) + (1 : Int32))), (0, .ref co)]) hx hb d_Cor_grown_34 hl rfl (iinc1 z) (by decide) rfl (fun ls hl => ?_)
      refine lv_goto hx hb d_Cor_grown_37 rfl ?_
      exact IH4 (z + 1) _ (by omega) (by omega) (q_loc (l' := [(2, .int (nI (z + 1))), (1, .int (gr1 R m (z + 1))), (0, .ref co)]) (lv_sub (l' := [(2, .int (nI (z + 1))), (1, .int ((gr1 R m z) + (1 : Int32))), (0, .ref co)]) hl [0, 1, 2] rfl) (by simp [gr1, h24]))
set_option maxHeartbeats 4000000 in
set_option maxRecDepth 100000 in
theorem c_Cor_run (l : Launch) (D : va_G) (ti : Nat → ClassId) (ad : Nat → Nat) (u : MT) (pi ex de : Nat) (xi xb di db fi fb : Int32) (ob reg : Nat → Nat) (kq : Int32 × Bool × Bool × Int32 × Int64) (ca va fv : Int32) (R : Nat → Cap) (co : Nat) (kp : Int32 × Bool × Bool × Int32 × Int64) (rc st tr : Int32) (w g : Nat → Int32) (hM : MIt u w g) (hD : PF di db w) (hF : PF fi fb w) (n : Nat) (h1 : 1 ≤ n) (h2 : n ≤ 10000) : Cg l y_Cor_run (wl y_Cor_run b_Cor_run 3 (some .int)) (rmL 8) D clz (ty4 ti) [.ref co, .int (nI n)] ((CW ad ti u pi ex de xi xb di db fi fb ob reg kq ca va fv R) ++ (KT ti co ob reg kp rc st tr false)) (fun z : MT × Bool × Int32 × Int32 × Int32 × Int32 × Int32 × Int32 × (Int32 × Bool × Bool × Int32 × Int64) => some (.int (nI (kIt n ((fv, ca, va, R, w, g, tr, false) : KS)).1))) (fun z => ((CW ad ti z.1 pi (cond z.2.1 de ex) (cond z.2.1 ex de) z.2.2.1 z.2.2.2.1 z.2.2.2.2.1 z.2.2.2.2.2.1 z.2.2.2.2.2.2.1 z.2.2.2.2.2.2.2.1 ob reg z.2.2.2.2.2.2.2.2 ((kIt n ((fv, ca, va, R, w, g, tr, false) : KS)).2.ca) ((kIt n ((fv, ca, va, R, w, g, tr, false) : KS)).2.va) ((kIt n ((fv, ca, va, R, w, g, tr, false) : KS)).2.fv) ((kIt n ((fv, ca, va, R, w, g, tr, false) : KS)).2.R)) ++ (KT ti co ob reg kp rc (st + nI (kIt n ((fv, ca, va, R, w, g, tr, false) : KS)).1) ((kIt n ((fv, ca, va, R, w, g, tr, false) : KS)).2.tr) ((kIt n ((fv, ca, va, R, w, g, tr, false) : KS)).2.ha)))) (fun z => MIt z.1 (kIt n ((fv, ca, va, R, w, g, tr, false) : KS)).2.w (kIt n ((fv, ca, va, R, w, g, tr, false) : KS)).2.g ∧ PF z.2.2.2.2.1 z.2.2.2.2.2.1 (kIt n ((fv, ca, va, R, w, g, tr, false) : KS)).2.w ∧ PF z.2.2.2.2.2.2.1 z.2.2.2.2.2.2.2.1 (kIt n ((fv, ca, va, R, w, g, tr, false) : KS)).2.w) := by
  refine Cg.ofF (plainFor_of_name (by decide)) (Nat.le_of_ble_eq_true rfl) ?_
  intro p9 e9 s9 m9 b9 me9 c9 ls S hr hlk hl hw
  obtain ⟨hx, hb, hml, hown, hts⟩ := id S
  have hl : lv_has ls 3 [(0, .ref co), (1, .int (nI n))] := hl
  refine lv_iload_n hx hb d_Cor_run_0 rfl (lv_at hl 1 rfl) ?_
  refine lv_iconst (v := 1) hx hb d_Cor_run_1 (by decide) ?_
  refine lv_icmp_lt hx hb d_Cor_run_2 rfl (fun h => absurd h (nI_nlt (a := n) (b := 1) h1 (by omega))) (fun _ => ?_)
  refine lv_iload_n hx hb d_Cor_run_5 rfl (lv_at hl 1 rfl) ?_
  refine lv_sipush (v := 10000) hx hb d_Cor_run_6 (by decide) ?_
  refine lv_icmp_le hx hb d_Cor_run_9 rfl (fun _ => ?_) (fun h => absurd h (not_not_intro (nI_le (a := n) (b := 10000) h2 (by decide))))
  refine lv_aload_n hx hb d_Cor_run_22 rfl (lv_at hl 0 rfl) ?_
  refine q_get S hw ly_Cor 69 rfl rfl 9 (by decide) tb_2_76 rfl rfl d_Cor_run_23 ?_
  refine lv_if_eq hx hb d_Cor_run_26 rfl (fun _ => ?_) (fun h => absurd h (by decide))
  refine lv_iconst (v := 0) hx hb d_Cor_run_39 (by decide) ?_
  refine lv_istore_n (lv' := [(2, .int (0 : Int32)), (0, .ref co), (1, .int (nI n))]) hx hb d_Cor_run_40 rfl hl (by decide) rfl (fun ls hl => ?_)
  refine q_loopH (Z := Nat × KS × (MT × Bool × Int32 × Int32 × Int32 × Int32 × Int32 × Int32 × (Int32 × Bool × Bool × Int32 × Int64))) (pcL := 41) (st := []) (nL := 3) (fun z => [(2, .int (nI z.1)), (1, .int (nI n)), (0, .ref co)]) (fun z => ((CW ad ti z.2.2.1 pi (cond z.2.2.2.1 de ex) (cond z.2.2.2.1 ex de) z.2.2.2.2.1 z.2.2.2.2.2.1 z.2.2.2.2.2.2.1 z.2.2.2.2.2.2.2.1 z.2.2.2.2.2.2.2.2.1 z.2.2.2.2.2.2.2.2.2.1 ob reg z.2.2.2.2.2.2.2.2.2.2 z.2.1.ca z.2.1.va z.2.1.fv z.2.1.R) ++ (KT ti co ob reg kp rc (st + nI z.1) z.2.1.tr z.2.1.ha))) (fun z => z.1 ≤ n ∧ kIt n ((fv, ca, va, R, w, g, tr, false) : KS) = ((kIt (n - z.1) z.2.1).1 + z.1, (kIt (n - z.1) z.2.1).2) ∧ MIt z.2.2.1 z.2.1.w z.2.1.g ∧ PF z.2.2.2.2.2.2.1 z.2.2.2.2.2.2.2.1 z.2.1.w ∧ PF z.2.2.2.2.2.2.2.2.1 z.2.2.2.2.2.2.2.2.2.1 z.2.1.w) (fun z => n - z.1) (fun z H locs ls hI41 hw hl IH41 => ?_) (0, ((fv, ca, va, R, w, g, tr, false) : KS), u, false, xi, xb, di, db, fi, fb, kq) (⟨Nat.zero_le _, rfl, hM, hD, hF⟩) (hw.same (by rw [show st + nI 0 = st from Int32.add_zero st]; rfl)) (q_loc (l' := [(2, .int (nI 0)), (1, .int (nI n)), (0, .ref co)]) (lv_sub (l' := [(2, .int (0 : Int32)), (1, .int (nI n)), (0, .ref co)]) hl [0, 2, 1] rfl) (rfl))
  have hI : z.1 ≤ n ∧ kIt n ((fv, ca, va, R, w, g, tr, false) : KS) = ((kIt (n - z.1) z.2.1).1 + z.1, (kIt (n - z.1) z.2.1).2) ∧ MIt z.2.2.1 z.2.1.w z.2.1.g ∧ PF z.2.2.2.2.2.2.1 z.2.2.2.2.2.2.2.1 z.2.1.w ∧ PF z.2.2.2.2.2.2.2.2.1 z.2.2.2.2.2.2.2.2.2.1 z.2.1.w := hI41
  obtain ⟨hM1, hD1, hF1⟩ := hI.2.2
  have hw : Lv _ _ _ _ _ ((CW ad ti z.2.2.1 pi (cond z.2.2.2.1 de ex) (cond z.2.2.2.1 ex de) z.2.2.2.2.1 z.2.2.2.2.2.1 z.2.2.2.2.2.2.1 z.2.2.2.2.2.2.2.1 z.2.2.2.2.2.2.2.2.1 z.2.2.2.2.2.2.2.2.2.1 ob reg z.2.2.2.2.2.2.2.2.2.2 z.2.1.ca z.2.1.va z.2.1.fv z.2.1.R) ++ (KT ti co ob reg kp rc (st + nI z.1) z.2.1.tr z.2.1.ha)) _ _ _ := hw
  have hl : lv_has ls 3 [(2, .int (nI z.1)), (1, .int (nI n)), (0, .ref co)] := hl
  refine lv_iload_n hx hb d_Cor_run_41 rfl (lv_at hl 0 rfl) ?_
  refine lv_iload_n hx hb d_Cor_run_42 rfl (lv_at hl 1 rfl) ?_
  refine lv_icmp_ge hx hb d_Cor_run_43 rfl (fun h43 => ?_) (fun h43 => ?_)
  · have eR : kIt n ((fv, ca, va, R, w, g, tr, false) : KS) = (z.1, z.2.1) := by have e9 : n - z.1 = 0 := (by have := (nI_leI (a := n) (b := z.1) (by omega) (by omega)).mp h43; omega); rw [hI.2.1, e9, show kIt 0 z.2.1 = (0, z.2.1) from rfl, Nat.zero_add]
    refine lv_iload_n hx hb d_Cor_run_63 rfl (lv_at hl 0 rfl) ?_
    exact hw.riz S hr hlk (rfl) d_Cor_run_64 z.2.2 (by rw [eR]) (by rw [eR]; exact hI.2.2) (by rw [eR])
  · have hz := lt_nge (c := n) (by omega) hI.1 h43
    refine lv_aload_n hx hb d_Cor_run_46 rfl (lv_at hl 2 rfl) ?_
    refine q_get S hw ly_Cor 69 rfl rfl 9 (by decide) tb_2_76 rfl rfl d_Cor_run_47 ?_
    refine q_ifz_ne S d_Cor_run_50 rfl (fun h50 => ?_) (fun h50 => ?_)
    · have eR : kIt n ((fv, ca, va, R, w, g, tr, false) : KS) = (z.1, z.2.1) := by rw [hI.2.1, kIt_h h50, Nat.zero_add]
      refine lv_iload_n hx hb d_Cor_run_63 rfl (lv_at hl 0 rfl) ?_
      exact hw.riz S hr hlk (rfl) d_Cor_run_64 z.2.2 (by rw [eR]) (by rw [eR]; exact hI.2.2) (by rw [eR])
    · refine lv_aload_n hx hb d_Cor_run_53 rfl (lv_at hl 2 rfl) ?_
      refine q_cg (q_runV (As := []) (rest := []) S (c_Cor_step l D ti ad z.2.2.1 pi (cond z.2.2.2.1 de ex) (cond z.2.2.2.1 ex de) z.2.2.2.2.1 z.2.2.2.2.2.1 z.2.2.2.2.2.2.1 z.2.2.2.2.2.2.2.1 z.2.2.2.2.2.2.2.2.1 z.2.2.2.2.2.2.2.2.2.1 ob reg z.2.2.2.2.2.2.2.2.2.2 z.2.1.ca z.2.1.va z.2.1.fv z.2.1.R co kp rc (st + nI z.1) z.2.1.tr z.2.1.ha z.2.1.w z.2.1.g hM1 hD1 hF1) (cw_v hts tb_3_150 k_Cor_step rfl rfl ⟨by decide, by decide⟩) hw 69 rfl rfl rfl hl.1 rfl (Nat.le_of_ble_eq_true rfl) d_Cor_run_54 ⟨Nat.zero_le _, Nat.zero_le _⟩) hw (fun z hD => by obtain ⟨_, b, _⟩ := z; cases b; exact KW_D hD; exact KW_sw hD) (fun z82 H locs hp83 hw => ?_)
      obtain ⟨u84, b85, xi86, xb87, di88, db89, fi90, fb91, kq92⟩ := z82
      have hp83 : MIt u84 (kStep z.2.1).w (kStep z.2.1).g ∧ PF di88 db89 (kStep z.2.1).w ∧ PF fi90 fb91 (kStep z.2.1).w := hp83
      refine W.eq (g2 := F0 m9 57 ls []) rfl ?_
      have hw : Lv _ _ _ _ _ ((CW ad ti u84 pi (cond b85 (cond z.2.2.2.1 ex de) (cond z.2.2.2.1 de ex)) (cond b85 (cond z.2.2.2.1 de ex) (cond z.2.2.2.1 ex de)) xi86 xb87 di88 db89 fi90 fb91 ob reg kq92 ((kStep z.2.1).ca) ((kStep z.2.1).va) ((kStep z.2.1).fv) ((kStep z.2.1).R)) ++ (KT ti co ob reg kp rc ((st + nI z.1) + 1) ((kStep z.2.1).tr) ((kStep z.2.1).ha))) _ _ _ := hw
      refine lv_iinc (k := 0) (v := (nI (z.1 + 1))) (lv' := [(2, .int (nI (z.1 + 1))), (1, .int (nI n)), (0, .ref co)]) hx hb d_Cor_run_57 hl rfl (iinc1 z.1) (by decide) rfl (fun ls hl => ?_)
      refine lv_goto hx hb d_Cor_run_60 rfl ?_
      have hw : Lv _ _ _ _ _ ((CW ad ti u84 pi (cond (xor z.2.2.2.1 b85) de ex) (cond (xor z.2.2.2.1 b85) ex de) xi86 xb87 di88 db89 fi90 fb91 ob reg kq92 ((kStep z.2.1).ca) ((kStep z.2.1).va) ((kStep z.2.1).fv) ((kStep z.2.1).R)) ++ (KT ti co ob reg kp rc (st + nI (z.1 + 1)) ((kStep z.2.1).tr) ((kStep z.2.1).ha))) _ _ _ := hw.same (by rw [nI_succ, ← Int32.add_assoc]; cases z.2.2.2.1 <;> cases b85 <;> rfl)
      exact IH41 (z.1 + 1, kStep z.2.1, u84, xor z.2.2.2.1 b85, xi86, xb87, di88, db89, fi90, fb91, kq92) _ _ _ (⟨hz, by rw [hI.2.1, kIt_s hz h50], hp83⟩) (by show n - (z.1 + 1) < n - z.1; omega) hw (lv_sub (l' := [(2, .int (nI (z.1 + 1))), (1, .int (nI n)), (0, .ref co)]) hl [0, 1, 2] rfl)
