/-! Sums of tags, roots. -/
def tS (g : Nat → Int32) : Nat → Int32
  | 0 => 0
  | k + 1 => tS g k + (if gTag g (2 * k) = false then 0 else 1)
def b1 (b : Bool) : Int32 := if b = false then 0 else 1
theorem pop4 : ∀ k, k < 16 → jpop (nI k) = b1 (bt (nI k) 0) + b1 (bt (nI k) 1) + b1 (bt (nI k) 2) + b1 (bt (nI k) 3) := by decide +kernel
theorem tS_4 (g : Nat → Int32) (h : ∀ n, n < 512 → ∃ k, k < 16 ∧ g n = nI k) : ∀ n, n ≤ 512 → tS g (4 * n) = gSum g n := by
  intro n
  induction n with
  | zero => intro _; rfl
  | succ n ih =>
    intro hn
    have e : 4 * (n + 1) = 4 * n + 1 + 1 + 1 + 1 := by omega
    rw [e]
    have t : ∀ j, j < 4 → gTag g (2 * (4 * n + j)) = bt (g n) j := by
      intro j hj
      rw [gTag_b, show 2 * (4 * n + j) / 8 = n by omega, show 2 * (4 * n + j) % 8 / 2 = j by omega]
    show tS g (4 * n) + b1 (gTag g (2 * (4 * n + 0))) + b1 (gTag g (2 * (4 * n + 1))) + b1 (gTag g (2 * (4 * n + 2))) + b1 (gTag g (2 * (4 * n + 3))) = gSum g n + jpop (g n)
    rw [t 0 (by decide), t 1 (by decide), t 2 (by decide), t 3 (by decide), ih (by omega)]
    obtain ⟨k, hk, ek⟩ := h n (by omega)
    rw [ek, pop4 k hk]
    simp only [Int32.add_assoc]
theorem tS_2048 {g : Nat → Int32} (h : ∀ n, n < 512 → ∃ k, k < 16 ∧ g n = nI k) : tS g 2048 = gSum g 512 := tS_4 g h 512 (Nat.le_refl _)
theorem anyR_c {f g : Nat → Bool} {m : Nat} (h : ∀ j, j < m → f j = g j) : anyR f m = anyR g m := by
  induction m with
  | zero => rfl
  | succ m ih =>
    show (if anyR f m = true then true else f m) = (if anyR g m = true then true else g m)
    rw [ih (fun j hj => h j (by omega)), h m (by omega)]
def rOf (rb rt : Nat → Int64) (rp : Nat → Int32) (m a : Int32) (j : Nat) : Bool := if cbase m a < rb j then false else if rt j < ctop m a then false else if (cPerms m &&& (rp j ^^^ (-1))) = 0 then true else false
def mOut (rb rt : Nat → Int64) (rp : Nat → Int32) (m : Nat) (c : Cap) : Bool := if c.1 = false then false else if anyR (rOf rb rt rp c.2.2 c.2.1) m = true then false else true
def RT (R : Nat → Cap) (rb rt : Nat → Int64) (rp : Nat → Int32) (m : Nat) : Prop := ∀ j, j < m → rb j = cbase (R (40 + j)).2.2 (R (40 + j)).2.1 ∧ rt j = ctop (R (40 + j)).2.2 (R (40 + j)).2.1 ∧ rp j = cPerms (R (40 + j)).2.2
theorem RT.out {R : Nat → Cap} {rb rt : Nat → Int64} {rp : Nat → Int32} {m : Nat} (h : RT R rb rt rp m) (c : Cap) : oOut R m c = mOut rb rt rp m c := by
  unfold oOut mOut
  rw [anyR_c (f := fun j => cWC c (R (40 + j))) (g := rOf rb rt rp c.2.2 c.2.1) (fun j hj => by
    obtain ⟨e1, e2, e3⟩ := h j hj
    unfold rOf
    rw [e1, e2, e3]
    rfl)]
theorem RT.kp {R R' : Nat → Cap} {rb rt : Nat → Int64} {rp : Nat → Int32} {m : Nat} (h : RT R rb rt rp m) (k : kp R' R) : RT R' rb rt rp m := by
  intro j hj
  rw [k (40 + j) (by omega)]
  exact h j hj
def gq1 (o : Cap → Bool) (Q : Nat → Cap) : Nat → Int32
  | 0 => 0
  | r + 1 => gq1 o Q r + (if o (Q r) = false then 0 else 1)
def gq2 (o : Cap → Bool) (Q : Nat → Cap) (w g : Nat → Int32) : Nat → Int32
  | 0 => gq1 o Q 37
  | k + 1 => if gTag g (2 * k) = false then gq2 o Q w g k else gq2 o Q w g k + (if o (true, w (2 * k), w (2 * k + 1) ^^^ 1000194) = false then 0 else 1)
theorem RT.gr {R Q : Nat → Cap} {rb rt : Nat → Int64} {rp : Nat → Int32} {m : Nat} (h : RT R rb rt rp m) (a : ag Q R) (w g : Nat → Int32) (k : Nat) : gr2 R m w g k = gq2 (mOut rb rt rp m) Q w g k := by
  induction k with
  | zero =>
    show gr1 R m 37 = gq1 (mOut rb rt rp m) Q 37
    have t : ∀ r, r ≤ 37 → gr1 R m r = gq1 (mOut rb rt rp m) Q r := by
      intro r
      induction r with
      | zero => intro _; rfl
      | succ r ih =>
        intro hr
        show gr1 R m r + (if oOut R m (R r) = false then 0 else 1) = gq1 (mOut rb rt rp m) Q r + (if mOut rb rt rp m (Q r) = false then 0 else 1)
        rw [ih (by omega), h.out, a r (by omega)]
    exact t 37 (Nat.le_refl _)
  | succ k ih =>
    show (if gTag g (2 * k) = false then gr2 R m w g k else gr2 R m w g k + (if oOut R m (true, w (2 * k), w (2 * k + 1) ^^^ 1000194) = false then 0 else 1)) = (if gTag g (2 * k) = false then gq2 (mOut rb rt rp m) Q w g k else gq2 (mOut rb rt rp m) Q w g k + (if mOut rb rt rp m (true, w (2 * k), w (2 * k + 1) ^^^ 1000194) = false then 0 else 1))
    rw [ih, h.out]
theorem pkW_hi (B T e : Nat) (he : e < 32) (i : Nat) (hi : i < 32) (h : 15 ≤ i) : bt (pkW B T e) i = false := by
  have h56 : ∀ i, i < 32 → 7 ≤ i → bt 56 i = false := by decide +kernel
  have h248 : ∀ i, i < 32 → 15 ≤ i → bt 248 i = false := by decide +kernel
  have h7 : ∀ i, i < 32 → 15 ≤ i → bt 7 i = false := by decide +kernel
  have e3 : bt (nI (e / 8)) (i - 8) = false := by
    rw [e_sm (e / 8) (by omega) (i - 8) (by omega)]
    have : ¬ i - 8 < 5 := by omega
    simp [this]
  rw [pkW_b B T e he i hi, h56 (i - 8) (by omega) (by omega), h248 i hi h, h7 i hi h, e_sr3 e he, e3]
  have : ¬ i = 14 := by omega
  simp [this]
theorem kE_27 {B T : Nat} (hB : B ≤ T) (hT : T ≤ 4294967296) (h : kIn (lN B) (lN T) = true) : ∃ e, e ≤ 27 ∧ kE (lN B) (lN T) = nI e := by
  have e0 : kE0 (lN B) (lN T) = nI (kB (lN ((T - B) / 128)) 63 0) := by
    unfold kE0
    rw [lN_sub hB, show (7 : Int32) = nI 7 from rfl, wb_shr (by omega) (by decide), show (2 : Nat) ^ 7 = 128 from rfl]
  have l : kB (lN ((T - B) / 128)) 63 0 ≤ 26 := by
    have a : ∀ k z, z + k = 26 → kB (lN ((T - B) / 128)) (63 - z) z ≤ 26 := by
      intro k
      induction k with
      | zero =>
        intro z h
        have hz : z = 26 := by omega
        subst hz
        rw [kB_stop (by omega) (by decide) (Nat.div_eq_of_lt (by omega))]
        decide
      | succ k ih =>
        intro z h
        by_cases h1 : (T - B) / 128 / 2 ^ z = 0
        · rw [kB_stop (by omega) (by omega) h1]
          omega
        · rw [kB_on (by omega) (by omega) h1]
          exact ih (z + 1) (by omega)
    exact a 26 0 rfl
  unfold kE
  rw [if_neg (by rw [h]; decide), e0]
  split
  · exact ⟨_, by omega, rfl⟩
  · exact ⟨_, by omega, nI_1 _⟩
theorem kBits_hi {B T : Nat} (hB : B ≤ T) (hT : T ≤ 4294967296) (i : Nat) (hi : i < 32) (h : 15 ≤ i) : bt (kBits (lN B) (lN T)) i = false := by
  cases q : kIn (lN B) (lN T) with
  | true =>
    obtain ⟨e, he, hk⟩ := kE_27 hB hT q
    obtain ⟨_, _, e3⟩ := pk_fin hB hT he q hk
    rw [e3]
    exact pkW_hi B T e (by omega) i hi h
  | false =>
    have h255 : ∀ i, i < 32 → 15 ≤ i → bt 255 i = false := by decide +kernel
    have h63 : ∀ i, i < 32 → 7 ≤ i → bt 63 i = false := by decide +kernel
    unfold kBits kB0
    rw [q, if_pos rfl, b_or, b_and, h255 i hi h, show ((8 : Int32) &&& 31) = (nI 8 &&& 31) from rfl, b_shl 8 (by decide) _ hi, b_and, h63 (i - 8) (by omega) (by omega)]
    simp
theorem rt_perms {b n p : Int32} (hf : fitS b n.toInt64 = true) (h0 : ¬ p < 0) (h1 : p ≤ 4095) : cPerms (rtM b n p) = p := by
  obtain ⟨L, e, hL⟩ := fit_n hf
  obtain ⟨P, hP, rfl⟩ := nI_of2 (M := 4095) (n := 4095) rfl h0 h1
  unfold rtM cPerms
  rw [e, cLow_n, lN_add]
  apply b_ext
  intro i hi
  rw [show (20 : Int32) = nI 20 from rfl, b_us 20 (by decide)]
  by_cases h : 20 + i < 32
  · have h9 : ∀ i, i < 12 → bt 983040 (20 + i) = false := by decide +kernel
    rw [b_or, b_or, h9 i (by omega), kBits_hi (by omega) (by omega) (20 + i) h (by omega), b_shl 20 (by decide) _ h, show 20 + i - 20 = i by omega]
    simp
  · rw [b_big (by omega), b_nI]
    have : P.testBit i = false := Nat.testBit_lt_two_pow (by have := Nat.pow_le_pow_right (n := 2) (by decide) (show 12 ≤ i by omega); omega)
    simp [this]
theorem RT.root {R : Nat → Cap} {rb rt : Nat → Int64} {rp : Nat → Int32} {m : Nat} (h : RT R rb rt rp m) {r : Nat} (hr : r < 37) {b n p : Int32} (hf : fitS b n.toInt64 = true) (h0 : ¬ p < 0) (h1 : p ≤ 4095) : RT (rrR R r m b n p) (vp_updL rb m (cbase (rtM b n p) b)) (vp_updL rt m (ctop (rtM b n p) b)) (upd rp m p) (m + 1) := by
  intro j hj
  unfold rrR
  by_cases q : j = m
  · subst q
    rw [va_up_self]
    refine ⟨by simp [vp_updL], by simp [vp_updL], ?_⟩
    rw [rt_perms hf h0 h1]
    simp [upd]
  · rw [va_up_ne _ _ (show 40 + j ≠ 40 + m by omega), va_up_ne _ _ (show 40 + j ≠ r by omega)]
    obtain ⟨e1, e2, e3⟩ := h j (by omega)
    refine ⟨by simp [vp_updL, q, e1], by simp [vp_updL, q, e2], by simp [upd, q, e3]⟩
