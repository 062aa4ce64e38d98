theorem aa_test (a b : Int32) (h : a < b) : ¬ b < a := by
  rw [Int32.lt_iff_toInt_lt] at *
  omega
theorem ab_test (x : Nat) (h : x < 5) : x + 1 < 7 := by omega
