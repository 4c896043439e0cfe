/-! Nibbles of a row of tags, by their bits. -/
def bt (x : Int32) (i : Nat) : Bool := x.toBitVec.getLsbD i
theorem b_ext {x y : Int32} (h : ∀ i, i < 32 → bt x i = bt y i) : x = y := Int32.toBitVec_inj.mp (BitVec.eq_of_getLsbD_eq h)
theorem b_or (x y : Int32) (i : Nat) : bt (x ||| y) i = (bt x i || bt y i) := BitVec.getLsbD_or
theorem b_and (x y : Int32) (i : Nat) : bt (x &&& y) i = (bt x i && bt y i) := BitVec.getLsbD_and
theorem b_xor (x y : Int32) (i : Nat) : bt (x ^^^ y) i = (bt x i ^^ bt y i) := BitVec.getLsbD_xor
theorem b_big {x : Int32} {i : Nat} (h : 32 ≤ i) : bt x i = false := BitVec.getLsbD_of_ge _ _ h
theorem b_m1 : ∀ i, i < 32 → bt (-1) i = true := by decide +kernel
theorem b_nI (n i : Nat) : bt (nI n) i = (decide (i < 32) && n.testBit i) := by
  show (BitVec.ofNat 32 n).getLsbD i = _
  rw [BitVec.getLsbD_ofNat]
theorem b_mask (k i : Nat) (hk : k ≤ 32) : bt (nI (2 ^ k - 1)) i = decide (i < k) := by
  rw [b_nI, Nat.testBit_two_pow_sub_one]
  by_cases h : i < k
  · have : i < 32 := by omega
    simp [h, this]
  · simp [h]
theorem s_l : ∀ n, n < 32 → ((nI n &&& 31).toBitVec.smod 32).toNat = n := by decide +kernel
theorem s_u : ∀ n, n < 32 → (((nI n).toUInt32 &&& Int32.toUInt32 31).toBitVec % 32).toNat = n := by decide +kernel
theorem b_shl (n : Nat) (hn : n < 32) (x : Int32) {i : Nat} (hi : i < 32) : bt (x <<< (nI n &&& 31)) i = (decide (n ≤ i) && bt x (i - n)) := by
  show (x.toBitVec <<< ((nI n &&& 31).toBitVec.smod 32)).getLsbD i = _
  rw [BitVec.shiftLeft_eq', s_l n hn, BitVec.getLsbD_shiftLeft]
  by_cases h : n ≤ i
  · have h2 : ¬ i < n := by omega
    simp [h, h2, hi, bt]
  · have h2 : i < n := by omega
    simp [h, h2]
theorem b_us (n : Nat) (hn : n < 32) (x : Int32) (i : Nat) : bt (jus x (nI n)) i = bt x (n + i) := by
  show (x.toBitVec >>> (((nI n).toUInt32 &&& Int32.toUInt32 31).toBitVec % 32)).getLsbD i = _
  rw [BitVec.ushiftRight_eq', s_u n hn, BitVec.getLsbD_ushiftRight]
  rfl
theorem nib_keep (X : Int32) {a b k : Nat} (ha : a < 8) (hb : b < 8) (hk : k < 16) : jus ((X &&& (((15 : Int32) <<< (nI (4 * a) &&& 31)) ^^^ (-1))) ||| (nI k <<< (nI (4 * a) &&& 31))) (nI (4 * b)) &&& 15 = if b = a then nI k else jus X (nI (4 * b)) &&& 15 := by
  have e15 : (15 : Int32) = nI (2 ^ 4 - 1) := rfl
  have hk4 : ∀ i, 4 ≤ i → k.testBit i = false := fun i hi => Nat.testBit_lt_two_pow (Nat.lt_of_lt_of_le (show k < 2 ^ 4 from hk) (Nat.pow_le_pow_right (by decide) hi))
  apply b_ext
  intro i hi
  rw [b_and, b_us (4 * b) (by omega), e15, b_mask 4 i (by decide)]
  by_cases h4 : i < 4
  · have hlt : 4 * b + i < 32 := by omega
    rw [b_or, b_and, b_xor, b_shl (4 * a) (by omega) _ hlt, b_shl (4 * a) (by omega) _ hlt, b_m1 _ hlt, b_mask 4 _ (by decide), b_nI]
    by_cases hab : b = a
    · subst hab
      have h1 : 4 * b + i - 4 * b = i := by omega
      rw [if_pos rfl, b_nI, h1]
      simp [h4, hi]
    · rw [if_neg hab, b_and, b_us (4 * b) (by omega), b_mask 4 i (by decide)]
      by_cases hle : 4 * a ≤ 4 * b + i
      · have h2 : ¬ 4 * b + i - 4 * a < 4 := by omega
        have h3 := hk4 (4 * b + i - 4 * a) (by omega)
        simp [h2, h3, h4]
      · simp [hle, h4]
  · have h5 : decide (i < 4) = false := by simp [h4]
    rw [h5, Bool.and_false]
    split
    · rw [b_nI, hk4 i (by omega), Bool.and_false]
    · rw [b_and, b_mask 4 i (by decide), h5, Bool.and_false]
theorem kp_TI {rows held tc : Nat → Int32} {tw : Nat → Bool} (h : TI rows held tc tw) {n : Nat} (hn : n < 512) (hh : held (n / 8 % 8) = nI (n / 8)) (t : Int32) : TI rows held (kpTc tc n t) (va_up tw (n / 8 % 8) true) := by
  intro j hj
  by_cases hq : j = n / 8 % 8
  · subst hq
    exact Or.inr ⟨n / 8, by omega, rfl, hh, fun hw => by simp [va_up] at hw⟩
  · have e1 : kpTc tc n t j = tc j := by simp [kpTc, upd, hq]
    have e2 : va_up tw (n / 8 % 8) true j = tw j := by simp [va_up, hq]
    rw [e1, e2]
    exact h j hj
theorem kp_seen {rows held tc : Nat → Int32} {n : Nat} (hn : n < 512) (hh : held (n / 8 % 8) = nI (n / 8)) {k : Nat} (hk : k < 16) {m : Nat} (hm : m < 512) : tSeen rows held (kpTc tc n (nI k)) m = if m = n then nI k else tSeen rows held tc m := by
  unfold tSeen
  by_cases hq : m / 8 % 8 = n / 8 % 8
  · rw [hq]
    by_cases hr : m / 8 = n / 8
    · have hc : held (n / 8 % 8) = nI (m / 8) := by rw [hr]; exact hh
      simp only [if_pos hc]
      have e1 : kpTc tc n (nI k) (n / 8 % 8) = (tc (n / 8 % 8) &&& (((15 : Int32) <<< (tAt n &&& 31)) ^^^ (-1))) ||| (nI k <<< (tAt n &&& 31)) := by simp [kpTc, upd]
      rw [e1]
      unfold tAt
      rw [nib_keep _ (by omega) (by omega) hk]
      by_cases hmn : m = n
      · have h1 : m % 8 = n % 8 := by omega
        rw [if_pos h1, if_pos hmn]
      · have h1 : ¬ m % 8 = n % 8 := by omega
        rw [if_neg h1, if_neg hmn]
    · have hne : ¬ held (n / 8 % 8) = nI (m / 8) := fun q => hr (nI_inj (by omega) (by omega) (q.symm.trans hh))
      have hmn : ¬ m = n := fun q => hr (by rw [q])
      simp only [if_neg hne, if_neg hmn]
  · have e1 : kpTc tc n (nI k) (m / 8 % 8) = tc (m / 8 % 8) := by simp [kpTc, upd, hq]
    have hmn : ¬ m = n := fun q => hq (by rw [q])
    rw [e1, if_neg hmn]
/-! loading a line, writing one back -/
theorem MI.touch {words mc mt : Nat → Int32} {mw : Nat → Bool} {rows held tc : Nat → Int32} {tw : Nat → Bool} {lines nx w g : Nat → Int32} (h : MI words mc mt mw rows held tc tw lines nx w g) (s : Nat) : MI words mc mt mw rows held tc tw lines (upd nx (s / 2) (1 - nI (s % 2))) w g :=
  ⟨h.1, h.2.1, h.2.2.1.touch s, h.2.2.2⟩
theorem va_cpy_in {f g : Nat → Int32} {sp dp n j : Nat} (h : j < n) : va_cpy f g sp dp n (dp + j) = f (sp + j) := by
  rw [pk_cpy_in (by omega) (by omega)]
  congr 1
  omega
theorem MI.load {words mc mt : Nat → Int32} {mw : Nat → Bool} {rows held tc : Nat → Int32} {tw : Nat → Bool} {lines nx w g : Nat → Int32} (h : MI words mc mt mw rows held tc tw lines nx w g) {n v : Nat} (hn : n < 512) (hv : v < 32) (hvn : v / 2 = n % 16) (hno : ∀ s, s < 32 → ¬ lines s = nI n)
    (hC : ∀ o, o < 512 → lines v = nI o → (∀ j, j < 8 → words (o * 8 + j) = w (o * 8 + j)) ∧ tSeen rows held tc o = g o) :
    MI words (va_cpy words mc (n * 8) (v * 8) 8) (upd mt v (tOf (brTc rows held tc tw n) n)) (va_up mw v false) (brRows rows held tc tw n) (brHeld held n) (brTc rows held tc tw n) (brTw held tw n) (upd lines v (nI n)) nx w g := by
  obtain ⟨hL, hD, hN, hT, hg, h0, hr, hb⟩ := h
  have hlv : ∀ s, ¬ s = v → upd lines v (nI n) s = lines s := fun s hs => by simp [upd, hs]
  have hlv0 : upd lines v (nI n) v = nI n := by simp [upd]
  have hseen : ∀ m, m < 512 → tSeen (brRows rows held tc tw n) (brHeld held n) (brTc rows held tc tw n) m = tSeen rows held tc m := fun m hm => br_seen hT hn hm
  have hbn := hb n hn hno
  refine ⟨fun s hs => ?_, fun i j hi hj hij hne => ?_, hN, br_TI hT hn, hg, fun s hs e => ?_, fun s m hs hm e => ?_, fun m hm hno' => ?_⟩
  · by_cases e : s = v
    · subst e; exact Or.inr ⟨n, hn, hvn.symm, hlv0⟩
    · rw [hlv s e]; exact hL s hs
  · by_cases e1 : i = v
    · subst e1
      rw [hlv0, hlv j (by omega)]
      exact fun q => hno j hj q.symm
    · rw [hlv i e1] at hne ⊢
      by_cases e2 : j = v
      · subst e2; rw [hlv0]; exact hno i hi
      · rw [hlv j e2]; exact hD i j hi hj hij hne
  · by_cases e1 : s = v
    · subst e1; rw [hlv0] at e; exact absurd e (nI_neg (by omega))
    · rw [hlv s e1] at e
      have : upd mt v (tOf (brTc rows held tc tw n) n) s = mt s := by simp [upd, e1]
      rw [this]; exact h0 s hs e
  · by_cases e1 : s = v
    · subst e1
      rw [hlv0] at e
      have hmn : n = m := nI_inj (by omega) (by omega) e
      subst hmn
      refine ⟨fun j hj => ?_, ?_, fun _ => ⟨hbn.1, by rw [hseen n hn]; exact hbn.2⟩⟩
      · rw [va_cpy_in hj]; exact hbn.1 j hj
      · have : upd mt s (tOf (brTc rows held tc tw n) n) s = tOf (brTc rows held tc tw n) n := by simp [upd]
        rw [this, tOf_seen (rows := brRows rows held tc tw n) (br_held held n), hseen n hn]
        exact hbn.2
    · rw [hlv s e1] at e
      obtain ⟨h1, h2, h3⟩ := hr s m hs hm e
      have e2 : upd mt v (tOf (brTc rows held tc tw n) n) s = mt s := by simp [upd, e1]
      have e3 : va_up mw v false s = mw s := by simp [va_up, e1]
      refine ⟨fun j hj => ?_, by rw [e2]; exact h2, fun hw => ?_⟩
      · rw [pk_cpy_out (by omega)]; exact h1 j hj
      · rw [e3] at hw
        rw [hseen m hm]
        exact h3 hw
  · rw [hseen m hm]
    by_cases e1 : lines v = nI m
    · exact hC m hm e1
    · refine hb m hm (fun s hs e2 => ?_)
      by_cases e3 : s = v
      · rw [e3] at e2; exact e1 e2
      · exact hno' s hs (by rw [hlv s e3]; exact e2)
theorem MI.back {words mc mt : Nat → Int32} {mw : Nat → Bool} {rows held tc : Nat → Int32} {tw : Nat → Bool} {lines nx w g : Nat → Int32} (h : MI words mc mt mw rows held tc tw lines nx w g) {o v : Nat} (ho : o < 512) (hv : v < 32) (hvo : lines v = nI o) :
    MI (va_cpy mc words (v * 8) (o * 8) 8) mc mt mw (brRows rows held tc tw o) (brHeld held o) (kpTc (brTc rows held tc tw o) o (mt v)) (va_up (brTw held tw o) (o / 8 % 8) true) lines nx w g ∧
      ((∀ j, j < 8 → va_cpy mc words (v * 8) (o * 8) 8 (o * 8 + j) = w (o * 8 + j)) ∧ tSeen (brRows rows held tc tw o) (brHeld held o) (kpTc (brTc rows held tc tw o) o (mt v)) o = g o) := by
  obtain ⟨hL, hD, hN, hT, hg, h0, hr, hb⟩ := h
  obtain ⟨r1, r2, r3⟩ := hr v o hv ho hvo
  obtain ⟨k, hk, hgk⟩ := hg o ho
  have hT1 := br_TI hT ho
  have hseen : ∀ m, m < 512 → tSeen (brRows rows held tc tw o) (brHeld held o) (kpTc (brTc rows held tc tw o) o (mt v)) m = if m = o then g o else tSeen rows held tc m := fun m hm => by
    rw [r2, hgk, kp_seen ho (br_held held o) hk hm, br_seen hT ho hm]
  have hw : ∀ m j, m < 512 → j < 8 → va_cpy mc words (v * 8) (o * 8) 8 (m * 8 + j) = if m = o then w (o * 8 + j) else words (m * 8 + j) := fun m j hm hj => by
    by_cases e : m = o
    · subst e; rw [if_pos rfl, va_cpy_in hj]; exact r1 j hj
    · rw [if_neg e, pk_cpy_out (by omega)]
  have hown : (∀ j, j < 8 → va_cpy mc words (v * 8) (o * 8) 8 (o * 8 + j) = w (o * 8 + j)) ∧ tSeen (brRows rows held tc tw o) (brHeld held o) (kpTc (brTc rows held tc tw o) o (mt v)) o = g o :=
    ⟨fun j hj => by rw [hw o j ho hj, if_pos rfl], by rw [hseen o ho, if_pos rfl]⟩
  refine ⟨⟨hL, hD, hN, kp_TI hT1 ho (br_held held o) _, hg, h0, fun s m hs hm e => ?_, fun m hm hno => ?_⟩, hown⟩
  · obtain ⟨q1, q2, q3⟩ := hr s m hs hm e
    refine ⟨q1, q2, fun hc => ?_⟩
    by_cases e1 : m = o
    · subst e1; exact hown
    · exact ⟨fun j hj => by rw [hw m j hm hj, if_neg e1]; exact (q3 hc).1 j hj, by rw [hseen m hm, if_neg e1]; exact (q3 hc).2⟩
  · have e1 : ¬ m = o := fun q => hno v hv (by rw [q]; exact hvo)
    obtain ⟨q1, q2⟩ := hb m hm hno
    exact ⟨fun j hj => by rw [hw m j hm hj, if_neg e1]; exact q1 j hj, by rw [hseen m hm, if_neg e1]; exact q2⟩
