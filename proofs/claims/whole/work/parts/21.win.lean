theorem em_of {a b k r : Int} (h : a = b * k + r) (h0 : 0 ≤ r) (h1 : r < b) : a % b = r := by
  rw [h, Int.add_comm, Int.add_mul_emod_self_left]
  exact Int.emod_eq_of_lt h0 h1
/-- the window of a place, and where a number lies in it -/
theorem win_id {P A R x q r d1 d2 : Int} (hP : 0 < P) (hR0 : 0 ≤ R) (hR : R < 8) (hx0 : 0 ≤ x) (hx : x < 256) (hA : A = q * (256 * P) + r) (hr0 : 0 ≤ r) (hr : r < 256 * P)
    (h1 : d1 = if r < 32 * R * P then 1 else 0) (h2 : d2 = if x < 32 * R then 1 else 0) (S : Int) (hS : S = A - (A - 32 * R * P) % (256 * P)) :
    S + (x * P - S) % (256 * P) = ((q - d1 + d2) * 256 + x) * P := by
  have hRP0 : 0 ≤ R * P := Int.mul_nonneg hR0 (Int.le_of_lt hP)
  have hRP : R * P ≤ 7 * P := Int.mul_le_mul_of_nonneg_right (by omega) (Int.le_of_lt hP)
  have hxP0 : 0 ≤ x * P := Int.mul_nonneg hx0 (Int.le_of_lt hP)
  have hxP : x * P ≤ 255 * P := Int.mul_le_mul_of_nonneg_right (by omega) (Int.le_of_lt hP)
  have hY : 32 * R * P = 32 * (R * P) := Int.mul_assoc _ _ _
  have e1 : (A - 32 * R * P) % (256 * P) = r - 32 * (R * P) + d1 * (256 * P) := by
    refine em_of (k := q - d1) (by rw [hA, hY]; grind) ?_ ?_
    · rw [h1]; split <;> omega
    · rw [h1]; split <;> omega
  have hS2 : S = q * (256 * P) + 32 * (R * P) - d1 * (256 * P) := by rw [hS, e1, hA]; omega
  have e2 : (x * P - S) % (256 * P) = x * P - 32 * (R * P) + d2 * (256 * P) := by
    refine em_of (k := d1 - q - d2) (by rw [hS2]; grind) ?_ ?_
    · rw [h2]
      split
      · omega
      · have : 0 ≤ (x - 32 * R) * P := Int.mul_nonneg (by omega) (Int.le_of_lt hP)
        have e : (x - 32 * R) * P = x * P - 32 * (R * P) := by rw [Int.sub_mul, Int.mul_assoc]
        omega
    · rw [h2]
      split
      · rename_i hlt
        have : 0 ≤ (32 * R - 1 - x) * P := Int.mul_nonneg (by omega) (Int.le_of_lt hP)
        have e : (32 * R - 1 - x) * P = 32 * (R * P) - P - x * P := by rw [Int.sub_mul, Int.sub_mul, Int.mul_assoc, Int.one_mul]
        omega
      · omega
  rw [e2, hS2]
  grind
