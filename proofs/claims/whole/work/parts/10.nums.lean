theorem i_lt {a b : Int32} (h : a < b) : a.toInt < b.toInt := Int32.lt_iff_toInt_lt.mp h
theorem i_nlt {a b : Int32} (h : ¬ a < b) : b.toInt ≤ a.toInt := by rw [Int32.lt_iff_toInt_lt] at h; omega
theorem i_le {a b : Int32} (h : a ≤ b) : a.toInt ≤ b.toInt := Int32.le_iff_toInt_le.mp h
theorem i_nle {a b : Int32} (h : ¬ a ≤ b) : b.toInt < a.toInt := by rw [Int32.le_iff_toInt_le] at h; omega
theorem i_eq {a b : Int32} (h : a = b) : a.toInt = b.toInt := congrArg _ h
theorem i_add {x a b : Int32} (e : x = a + b) (h1 : -2147483648 ≤ a.toInt + b.toInt) (h2 : a.toInt + b.toInt < 2147483648) : x.toInt = a.toInt + b.toInt := by
  rw [e, Int32.toInt_add]
  exact fb_bmod0 h1 h2
theorem i_sub {x a b : Int32} (e : x = a - b) (h1 : -2147483648 ≤ a.toInt - b.toInt) (h2 : a.toInt - b.toInt < 2147483648) : x.toInt = a.toInt - b.toInt := by
  rw [e, Int32.toInt_sub]
  exact fb_bmod0 h1 h2
theorem i_neg {x a : Int32} (e : x = -a) (h1 : -2147483648 < a.toInt) : x.toInt = -a.toInt := by
  have h2 := fb_rng0 a
  rw [e, Int32.toInt_neg]
  exact fb_bmod0 (by omega) (by omega)
theorem i_mul4 {x a : Int32} (e : x = 4 * a) (h1 : 0 ≤ a.toInt) (h2 : a.toInt < 100000) : x.toInt = 4 * a.toInt := by
  rw [e, Int32.toInt_mul, show (4 : Int32).toInt = 4 from rfl]
  exact fb_bmod0 (by omega) (by omega)
theorem i_mul6 {x a : Int32} (e : x = 6 * a) (h1 : 0 ≤ a.toInt) (h2 : a.toInt < 100000) : x.toInt = 6 * a.toInt := by
  rw [e, Int32.toInt_mul, show (6 : Int32).toInt = 6 from rfl]
  exact fb_bmod0 (by omega) (by omega)
theorem i_mul80 {x a : Int32} (e : x = 80 * a) (h1 : 0 ≤ a.toInt) (h2 : a.toInt < 100000) : x.toInt = 80 * a.toInt := by
  rw [e, Int32.toInt_mul, show (80 : Int32).toInt = 80 from rfl]
  exact fb_bmod0 (by omega) (by omega)
