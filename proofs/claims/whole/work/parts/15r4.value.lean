/-! train: what a number read is -/
theorem nu_1 {fN : Nat → Int32} {nN : Int32} {P : Nat} (h0 : isD fN nN P 0 = true) : ac fN nN P 1 0 0 = F_X1_digitAt fN nN (nI P) := by
  have hd : ¬ F_X1_isDigit (F_X1_letterAt fN nN (nI P)) = 0 := fun e => by
    have h1 : isD fN nN P 0 = !decide (F_X1_isDigit (F_X1_letterAt fN nN (nI P)) = 0) := rfl
    rw [h1, decide_eq_true e] at h0
    exact absurd h0 (by decide)
  have e1 : ac fN nN P 1 0 0 = 10 * 0 + F_X1_letterAt fN nN (nI P) - 48 := if_pos h0
  rw [e1, Int32.mul_zero, Int32.zero_add]
  unfold F_X1_digitAt
  dsimp only
  rw [if_neg hd]
theorem nu_2 {fN : Nat → Int32} {nN : Int32} {P : Nat} (h0 : isD fN nN P 0 = true) : ac fN nN P 2 0 0 = F_X1_numberAt fN nN (nI P) := by
  have h1 := nu_1 h0
  have e1 : ac fN nN P 1 0 0 = 10 * 0 + F_X1_letterAt fN nN (nI P) - 48 := if_pos h0
  have e2 : ac fN nN P 2 0 0 = ac fN nN P 1 1 (10 * 0 + F_X1_letterAt fN nN (nI P) - 48) := if_pos h0
  rw [e2, ← e1, h1]
  unfold F_X1_numberAt
  dsimp only
  rw [nI_1]
  by_cases d : F_X1_isDigit (F_X1_letterAt fN nN (nI (P + 1))) = 0
  · have hf : ¬ isD fN nN P 1 = true := by unfold isD; rw [decide_eq_true d]; decide
    rw [if_pos d]
    exact if_neg hf
  · have hf : isD fN nN P 1 = true := by unfold isD; rw [decide_eq_false d]; rfl
    rw [if_neg d]
    have e3 : ac fN nN P 1 1 (F_X1_digitAt fN nN (nI P)) = 10 * F_X1_digitAt fN nN (nI P) + F_X1_letterAt fN nN (nI (P + 1)) - 48 := if_pos hf
    have e4 : F_X1_digitAt fN nN (nI (P + 1)) = F_X1_letterAt fN nN (nI (P + 1)) - 48 := by
      unfold F_X1_digitAt
      dsimp only
      rw [if_neg d]
    rw [e3, e4, Int32.sub_eq_add_neg, Int32.sub_eq_add_neg, Int32.add_assoc]
