/-! train: the letters told, seen from both sides -/
/-- what is told -/
def tO (fN : Nat → Int32) (nN : Int32) (o : Nat → Int32) (a : Nat → Nat → Int32) : Prop := nN = o 23 ∧ (0 ≤ (o 23).toInt ∧ (o 23).toInt ≤ 96) ∧ ∀ j : Nat, (j : Int) < (o 23).toInt → fN j = a 19 j
theorem l_at {fN : Nat → Int32} {nN : Int32} {o : Nat → Int32} {a : Nat → Nat → Int32} (h : tO fN nN o a) {P : Nat} (hP : P < 1000) (h24 : o 24 = nI P) : F_X1_letterAt fN nN (nI P) = F_X7_next o a := by
  obtain ⟨h1, h2, h3⟩ := h
  unfold F_X1_letterAt F_X7_next
  dsimp only
  rw [if_neg (nI_nl0 hP), h1, h24]
  by_cases c : o 23 ≤ nI P
  · rw [if_pos c, if_pos c]
  · rw [if_neg c, if_neg c]
    have hlt := i_nle c
    rw [nI_toInt (by omega)] at hlt
    have h96 : ¬ (96 : Int32) ≤ nI P := by
      rw [Int32.le_iff_toInt_le, nI_toInt (by omega), show (96 : Int32).toInt = 96 from rfl]
      omega
    rw [if_neg h96, nI_clamp (by omega)]
    exact h3 P hlt
theorem l_dg (o : Nat → Int32) (a : Nat → Nat → Int32) : F_X7_isDigit o a = F_X1_isDigit (F_X7_next o a) := rfl
theorem l_is {fN : Nat → Int32} {nN : Int32} {o : Nat → Int32} {a : Nat → Nat → Int32} (h : tO fN nN o a) {P : Nat} (hP : P < 1000) : F_X7_isDigit (upd o 24 (nI P)) a = F_X1_isDigit (F_X1_letterAt fN nN (nI P)) := by
  rw [l_dg, l_at (o := upd o 24 (nI P)) (a := a) ⟨h.1, h.2.1, h.2.2⟩ hP rfl]
