theorem fa_lt' (a b : Int32) : a < b ↔ a.toInt < b.toInt := Int32.lt_iff_toInt_lt
theorem fa_le' (a b : Int32) : a ≤ b ↔ a.toInt ≤ b.toInt := Int32.le_iff_toInt_le
theorem fa_nlt {a b : Int32} (h : ¬ a < b) : b ≤ a := by
  rw [fa_lt'] at h
  rw [fa_le']
  omega
theorem fa_nle {a b : Int32} (h : ¬ a ≤ b) : b < a := by
  rw [fa_le'] at h
  rw [fa_lt']
  omega
theorem fa_nlt2 {a b : Int32} (h : a < b) (h2 : b ≤ a) : False := by
  rw [fa_lt'] at h
  rw [fa_le'] at h2
  omega
