theorem fm_rem {X Y : Int} (h1 : -4611686018427387904 ≤ X) (h2 : X < 4611686018427387904) (h3 : 0 < Y) (h4 : Y < 4611686018427387904) : Int64.ofInt X - Int64.ofInt X / Int64.ofInt Y * Int64.ofInt Y = Int64.ofInt (X.tmod Y) := by
  have e1 : Int64.minValue.toInt = -9223372036854775808 := by decide
  have e2 : Int64.maxValue.toInt = 9223372036854775807 := by decide
  rw [← Int64.ofInt_tdiv (by omega) (by omega) (by omega) (by omega), ← Int64.ofInt_mul, ← Int64.ofInt_sub, Int.tmod_def, Int.mul_comm Y]
theorem fm_lt0 (x : Int64) : x < 0 ↔ x.toBitVec.msb = true := by
  rw [Int64.lt_iff_toInt_lt]
  show x.toBitVec.toInt < 0 ↔ _
  rw [BitVec.toInt_neg_iff, BitVec.msb_eq_decide]
  simp
  omega
theorem fm_oI {X : Int} (h1 : -4611686018427387904 ≤ X) (h2 : X < 4611686018427387904) : (Int64.ofInt X).toInt = X := Int64.toInt_ofInt_of_le (by omega) (by omega)
theorem fm_neg {X Y : Int} (h1 : -4611686018427387904 ≤ X) (h2 : X < 4611686018427387904) (h3 : 0 < Y) (h4 : Y < 4611686018427387904) : Int64.ofInt X ^^^ Int64.ofInt Y < 0 ↔ X < 0 := by
  rw [fm_lt0, Int64.toBitVec_xor, BitVec.msb_xor]
  have hy : (Int64.ofInt Y).toBitVec.msb = false := by
    cases h : (Int64.ofInt Y).toBitVec.msb with
    | false => rfl
    | true =>
      have := (fm_lt0 _).mpr h
      rw [Int64.lt_iff_toInt_lt, fm_oI (by omega) h4] at this
      exact absurd this (by show ¬ Y < 0; omega)
  rw [hy, Bool.xor_false, ← fm_lt0, Int64.lt_iff_toInt_lt, fm_oI h1 h2]
  rfl
theorem fm_tb {X Y : Int} (h3 : 0 < Y) : -Y ≤ X.tmod Y ∧ X.tmod Y < Y := by
  rw [Int.tmod_eq_emod]
  have a := Int.emod_nonneg X (show Y ≠ 0 by omega)
  have b := Int.emod_lt_of_pos X h3
  split <;> omega
theorem fm_pos {X Y : Int} (h : ¬ X < 0) : X.tmod Y = X % Y := Int.tmod_eq_emod_of_nonneg (by omega)
theorem fm_zero {X Y : Int} (h : X.tmod Y = 0) : X % Y = 0 := Int.emod_eq_zero_of_dvd (Int.dvd_of_tmod_eq_zero h)
theorem fm_add {X Y : Int} (h : X < 0) (h3 : 0 < Y) (h0 : ¬ X.tmod Y = 0) : X.tmod Y + Y = X % Y := by
  rw [Int.tmod_eq_emod]
  have h5 : ¬ (0 ≤ X ∨ Y ∣ X) := by
    rintro (q | q)
    · omega
    · exact h0 (Int.tmod_eq_zero_of_dvd q)
  rw [if_neg h5]
  omega
theorem fm_inj {X Y : Int} (h3 : 0 < Y) (h4 : Y < 4611686018427387904) : Int64.ofInt (X.tmod Y) = 0 ↔ X.tmod Y = 0 := by
  have := fm_tb (X := X) h3
  constructor
  · intro h
    have e := congrArg Int64.toInt h
    rw [fm_oI (by omega) (by omega)] at e
    exact e
  · intro h
    rw [h]
    rfl
