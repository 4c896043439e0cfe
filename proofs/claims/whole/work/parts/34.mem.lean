/-! What memory holds behind its caches: pure part. -/
def LI (lines : Nat → Int32) : Prop := ∀ s, s < 32 → lines s = -1 ∨ ∃ n, n < 512 ∧ n % 16 = s / 2 ∧ lines s = nI n
def NI (nx : Nat → Int32) : Prop := ∀ j, j < 16 → nx j = 0 ∨ nx j = 1
def MI (words mc mt : Nat → Int32) (mw : Nat → Bool) (rows held tc : Nat → Int32) (tw : Nat → Bool) (lines nx : Nat → Int32) (w g : Nat → Int32) : Prop :=
  LI lines ∧ LD lines ∧ NI nx ∧ TI rows held tc tw ∧ (∀ n, n < 512 → ∃ k, k < 16 ∧ g n = nI k) ∧ (∀ s, s < 32 → lines s = -1 → mt s = 0) ∧
  (∀ s n, s < 32 → n < 512 → lines s = nI n → (∀ j, j < 8 → mc (s * 8 + j) = w (n * 8 + j)) ∧ mt s = g n ∧ (mw s = false → (∀ j, j < 8 → words (n * 8 + j) = w (n * 8 + j)) ∧ tSeen rows held tc n = g n)) ∧
  (∀ n, n < 512 → (∀ s, s < 32 → ¬ lines s = nI n) → (∀ j, j < 8 → words (n * 8 + j) = w (n * 8 + j)) ∧ tSeen rows held tc n = g n)
theorem nI_inj {a b : Nat} (ha : a < 2 ^ 31) (hb : b < 2 ^ 31) (h : nI a = nI b) : a = b := (nI_eq ha hb).mp h
theorem nI_neg {r : Nat} (h : r < 2 ^ 31) : ¬ nI r = -1 := by
  intro q
  have h1 := nI_toInt h
  rw [q] at h1
  have h2 : (-1 : Int32).toInt = -1 := rfl
  omega
theorem mFind_spec {lines : Nat → Int32} (h : LI lines) {n : Nat} (hn : n < 512) : (∃ s, s < 32 ∧ mFind lines n = nI s ∧ lines s = nI n) ∨ (mFind lines n = -1 ∧ ∀ s, s < 32 → ¬ lines s = nI n) := by
  unfold mFind
  by_cases h1 : lines (n % 16 * 2) = nI n
  · exact Or.inl ⟨n % 16 * 2, by omega, by rw [if_pos h1], h1⟩
  · rw [if_neg h1]
    by_cases h2 : lines (n % 16 * 2 + 1) = nI n
    · exact Or.inl ⟨n % 16 * 2 + 1, by omega, by rw [if_pos h2], h2⟩
    · rw [if_neg h2]
      refine Or.inr ⟨rfl, fun s hs e => ?_⟩
      rcases h s hs with h3 | ⟨n', h3, h4, h5⟩
      · exact nI_neg (r := n) (by omega) (e.symm.trans h3)
      · have h6 : n' = n := nI_inj (by omega) (by omega) (h5.symm.trans e)
        subst h6
        have h7 : s = n' % 16 * 2 ∨ s = n' % 16 * 2 + 1 := by omega
        rcases h7 with h7 | h7
        · rw [h7] at e; exact h1 e
        · rw [h7] at e; exact h2 e
theorem mFind_none {lines : Nat → Int32} (h : LI lines) {n : Nat} (hn : n < 512) (e : mFind lines n = -1) : ∀ s, s < 32 → ¬ lines s = nI n := by
  rcases mFind_spec h hn with ⟨s, h1, h2, -⟩ | h1
  · exact absurd (h2.symm.trans e) (nI_neg (by omega))
  · exact h1.2
theorem mFind_some {lines : Nat → Int32} (h : LI lines) {n : Nat} (hn : n < 512) (e : ¬ mFind lines n = -1) : ∃ s, s < 32 ∧ mFind lines n = nI s ∧ lines s = nI n := by
  rcases mFind_spec h hn with h1 | h1
  · exact h1
  · exact absurd h1.1 e
theorem mVic_spec {nx : Nat → Int32} (h : NI nx) (n : Nat) : ∃ v, v < 32 ∧ v / 2 = n % 16 ∧ mVic nx n = nI v := by
  unfold mVic
  rcases h (n % 16) (by omega) with h1 | h1
  · refine ⟨n % 16 * 2, by omega, by omega, ?_⟩
    rw [h1]
    exact nI_add (n % 16 * 2) 0
  · exact ⟨n % 16 * 2 + 1, by omega, by omega, by rw [h1]; exact nI_1 _⟩
theorem NI.touch {nx : Nat → Int32} (h : NI nx) (s : Nat) : NI (upd nx (s / 2) (1 - nI (s % 2))) := by
  intro j hj
  by_cases e : j = s / 2
  · have h0 : s % 2 = 0 ∨ s % 2 = 1 := by omega
    rcases h0 with h0 | h0
    · exact Or.inr (by simp only [upd, e, ↓reduceIte, h0]; decide)
    · exact Or.inl (by simp only [upd, e, ↓reduceIte, h0]; decide)
  · have e2 : upd nx (s / 2) (1 - nI (s % 2)) j = nx j := by simp [upd, e]
    rw [e2]
    exact h j hj
-- bringing a row
def sRow (rows held tc : Nat → Int32) (r : Nat) : Int32 := if held (r % 8) = nI r then tc (r % 8) else rows r
theorem tSeen_row (rows held tc : Nat → Int32) (n : Nat) : tSeen rows held tc n = jus (sRow rows held tc (n / 8)) (tAt n) &&& 15 := rfl
theorem br_row {rows held tc : Nat → Int32} {tw : Nat → Bool} (h : TI rows held tc tw) {n : Nat} (hn : n < 512) {r : Nat} (hr : r < 64) : sRow (brRows rows held tc tw n) (brHeld held n) (brTc rows held tc tw n) r = sRow rows held tc r := by
  by_cases h0 : held (n / 8 % 8) = nI (n / 8)
  · simp only [brRows, brHeld, brTc, if_pos h0]
  · have h0' : ∀ r1, r1 < 64 → held (n / 8 % 8) = nI r1 → r1 ≠ n / 8 := fun r1 _ e q => h0 (by rw [e, q])
    -- the rows behind the writing back
    have hR : ∀ r, r < 64 → (held (n / 8 % 8) = nI r → brRows rows held tc tw n r = tc (n / 8 % 8)) ∧ (¬ held (n / 8 % 8) = nI r → brRows rows held tc tw n r = rows r) := by
      intro r hr
      rcases h (n / 8 % 8) (by omega) with ⟨h1, h2⟩ | ⟨r1, h1, h2, h3, h4⟩
      · refine ⟨fun e => absurd (e.symm.trans h1) (nI_neg (by omega)), fun _ => ?_⟩
        simp only [brRows, if_neg h0, if_pos h1]
      · have h5 : ¬ held (n / 8 % 8) = -1 := by rw [h3]; exact nI_neg (by omega)
        have h6 : (held (n / 8 % 8)).toNatClampNeg = r1 := by rw [h3]; exact nI_clamp (by omega)
        by_cases hw : tw (n / 8 % 8) = false
        · have e1 : brRows rows held tc tw n = rows := by simp only [brRows, if_neg h0, if_neg h5, if_pos hw]
          rw [e1]
          refine ⟨fun e => ?_, fun _ => rfl⟩
          have : r1 = r := nI_inj (by omega) (by omega) (h3.symm.trans e)
          rw [← this]
          exact (h4 hw).symm
        · have e1 : brRows rows held tc tw n = upd rows r1 (tc (n / 8 % 8)) := by simp only [brRows, if_neg h0, if_neg h5, if_neg hw, h6]
          rw [e1]
          refine ⟨fun e => ?_, fun e => ?_⟩
          · have : r1 = r := nI_inj (by omega) (by omega) (h3.symm.trans e)
            simp [upd, this]
          · have : ¬ r = r1 := fun q => e (by rw [h3, q])
            simp [upd, this]
    by_cases hq : r % 8 = n / 8 % 8
    · have e1 : brHeld held n (n / 8 % 8) = nI (n / 8) := by simp [brHeld, if_neg h0, upd]
      have e2 : brTc rows held tc tw n (n / 8 % 8) = brRows rows held tc tw n (n / 8) := by simp [brTc, if_neg h0, upd]
      unfold sRow
      rw [hq, e1, e2]
      by_cases hr0 : r = n / 8
      · rw [if_pos (by rw [hr0]), (hR (n / 8) (by omega)).2 h0, if_neg (by rw [hr0]; exact h0), hr0]
      · rw [if_neg (fun q => hr0 (nI_inj (by omega) (by omega) q.symm))]
        by_cases hh : held (n / 8 % 8) = nI r
        · rw [if_pos hh, (hR r hr).1 hh]
        · rw [if_neg hh, (hR r hr).2 hh]
    · have e1 : brHeld held n (r % 8) = held (r % 8) := by simp [brHeld, if_neg h0, upd, hq]
      have e2 : brTc rows held tc tw n (r % 8) = tc (r % 8) := by simp [brTc, if_neg h0, upd, hq]
      have e3 : brRows rows held tc tw n r = rows r := by
        refine (hR r hr).2 (fun e => ?_)
        rcases h (n / 8 % 8) (by omega) with ⟨h1, h2⟩ | ⟨r1, h1, h2, h3, h4⟩
        · exact nI_neg (r := r) (by omega) (e.symm.trans h1)
        · have : r1 = r := nI_inj (by omega) (by omega) (h3.symm.trans e)
          omega
      unfold sRow
      rw [e1, e2, e3]
theorem br_seen {rows held tc : Nat → Int32} {tw : Nat → Bool} (h : TI rows held tc tw) {n : Nat} (hn : n < 512) {m : Nat} (hm : m < 512) : tSeen (brRows rows held tc tw n) (brHeld held n) (brTc rows held tc tw n) m = tSeen rows held tc m := by
  rw [tSeen_row, tSeen_row, br_row h hn (by omega)]
theorem br_held (held : Nat → Int32) (n : Nat) : brHeld held n (n / 8 % 8) = nI (n / 8) := by
  by_cases h0 : held (n / 8 % 8) = nI (n / 8)
  · simp only [brHeld, if_pos h0]; exact h0
  · simp [brHeld, if_neg h0, upd]
theorem br_TI {rows held tc : Nat → Int32} {tw : Nat → Bool} (h : TI rows held tc tw) {n : Nat} (hn : n < 512) : TI (brRows rows held tc tw n) (brHeld held n) (brTc rows held tc tw n) (brTw held tw n) := by
  intro j hj
  by_cases h0 : held (n / 8 % 8) = nI (n / 8)
  · simp only [brRows, brHeld, brTc, brTw, if_pos h0]
    exact h j hj
  · by_cases hq : j = n / 8 % 8
    · subst hq
      refine Or.inr ⟨n / 8, by omega, rfl, br_held held n, fun _ => ?_⟩
      simp [brTc, if_neg h0, upd]
    · have e1 : brHeld held n j = held j := by simp [brHeld, if_neg h0, upd, hq]
      have e2 : brTc rows held tc tw n j = tc j := by simp [brTc, if_neg h0, upd, hq]
      have e3 : brTw held tw n j = tw j := by simp [brTw, if_neg h0, va_up, hq]
      rw [e1, e2, e3]
      rcases h j hj with h1 | ⟨r, h1, h2, h3, h4⟩
      · exact Or.inl h1
      · refine Or.inr ⟨r, h1, h2, h3, fun hw => ?_⟩
        have e4 := br_row h hn h1
        unfold sRow at e4
        rw [h2, e1, e2, if_pos h3, if_pos h3] at e4
        -- the row itself is as before: it isn't the one that was written back
        rw [h4 hw]
        unfold brRows
        rw [if_neg h0]
        by_cases h5 : held (n / 8 % 8) = -1
        · rw [if_pos h5]
        · rw [if_neg h5]
          by_cases h6 : tw (n / 8 % 8) = false
          · rw [if_pos h6]
          · rw [if_neg h6]
            obtain ⟨r1, g1, g2, g3, g4⟩ := h.row (j := n / 8 % 8) (by omega) h5
            have g5 : (held (n / 8 % 8)).toNatClampNeg = r1 := by rw [g3]; exact nI_clamp (by omega)
            rw [g5]
            have g6 : ¬ r = r1 := fun q => hq (by rw [← h2, q, g2])
            simp [upd, g6]
theorem tOf_seen {rows held tc : Nat → Int32} {n : Nat} (h : held (n / 8 % 8) = nI (n / 8)) : tOf tc n = tSeen rows held tc n := by
  unfold tOf tSeen
  rw [if_pos h]
