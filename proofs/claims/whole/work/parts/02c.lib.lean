theorem x_vp {i : Int32} {n : Nat} (h : n < 2 ^ 31) (h0 : ¬ i < 0) (h1 : ¬ nI n ≤ i) : vp_in i n := by
  obtain ⟨j, hj, rfl⟩ := nI_of (x := i) h0
  refine vp_in_nI ?_ h
  rcases Nat.lt_or_ge j n with q | q
  · exact q
  · exact absurd (nI_le q hj) h1
theorem x_add1 {v : Int32} (h : v.toInt < 2147483647) : (v + 1).toInt = v.toInt + 1 := by
  have h0 := fb_rng0 v
  rw [Int32.toInt_add, show (1 : Int32).toInt = 1 from rfl]
  exact fb_bmod0 (by omega) (by omega)
theorem x_up {v B : Int32} {n : Nat} (hc : ¬ B ≤ v) (hm : (B.toInt - v.toInt).toNat < n + 1) : (B.toInt - (v + 1).toInt).toNat < n := by
  have h1 : v.toInt < B.toInt := by rw [Int32.le_iff_toInt_le] at hc; omega
  have h2 := fb_rng0 B
  rw [x_add1 (by omega)]
  omega
theorem x_up' {v B : Int32} {n : Nat} (hc : v < B) (hm : (B.toInt - v.toInt).toNat < n + 1) : (B.toInt - (v + 1).toInt).toNat < n :=
  x_up (by rw [Int32.not_le]; exact hc) hm
theorem x_sub1 {v : Int32} (h : -2147483648 < v.toInt) : (v + (-1)).toInt = v.toInt - 1 := by
  have h0 := fb_rng0 v
  rw [Int32.toInt_add, show (-1 : Int32).toInt = -1 from rfl]
  exact (fb_bmod0 (by omega) (by omega)).trans (by omega)
theorem x_dn {v : Int32} {n : Nat} (hc : ¬ v < 0) (hm : (v.toInt + 1).toNat < n + 1) : ((v + (-1)).toInt + 1).toNat < n := by
  have h1 : 0 ≤ v.toInt := by rw [Int32.lt_iff_toInt_lt, Int32.toInt_zero] at hc; omega
  rw [x_sub1 (by omega)]
  omega
theorem x_dn1 {v : Int32} {n : Nat} (hc : ¬ v ≤ 1) (hm : v.toInt.toNat < n + 1) : (v + (-1)).toInt.toNat < n := by
  have h1 : 1 < v.toInt := by rw [Int32.le_iff_toInt_le, show (1 : Int32).toInt = 1 from rfl] at hc; omega
  rw [x_sub1 (by omega)]
  omega
theorem x_nz1 {v : Int32} (hc : ¬ v ≤ 1) : ¬ v = 0 := fun e => hc (by rw [e]; decide)
theorem x_mx {c g : Int32} (e : c = if 1 < g then g else 1) : ¬ c = 0 := by
  rw [e]
  split
  · rename_i h
    intro h2
    rw [h2] at h
    exact absurd h (by decide)
  · decide
theorem x_upE {v B : Int32} {n : Nat} (hB : B.toInt < 2147483647) (hc : ¬ B < v) (hm : (B.toInt + 1 - v.toInt).toNat < n + 1) : (B.toInt + 1 - (v + 1).toInt).toNat < n := by
  have h1 : v.toInt ≤ B.toInt := by rw [Int32.lt_iff_toInt_lt] at hc; omega
  have h2 := fb_rng0 v
  rw [x_add1 (by omega)]
  omega
theorem x_half {v : Int32} {n : Nat} (hc : ¬ v ≤ 0) (hm : v.toInt.toNat < n + 1) : (v / 2).toInt.toNat < n := by
  have h1 : 0 < v.toInt := by rw [Int32.le_iff_toInt_le, Int32.toInt_zero] at hc; omega
  have h2 := fb_rng0 v
  have h3 : (v / 2).toInt = v.toInt.tdiv 2 := by
    rw [Int32.toInt_div_of_ne_right v 2 (by decide)]
    rfl
  rw [h3, Int.tdiv_eq_ediv_of_nonneg (by omega)]
  omega
abbrev tyA (cI cL : ClassId) : List (ClassId × FieldType) := [(cI, .int), (cL, .object RX2)]
