/-! train: digits in a row -/
def dc (g : Nat → Bool) : Nat → Nat → Nat
  | 0, k => k
  | m + 1, k => if g k = true then dc g m (k + 1) else k
theorem dc_b {g : Nat → Bool} : ∀ m k : Nat, k ≤ dc g m k ∧ dc g m k ≤ k + m := by
  intro m
  induction m with
  | zero => intro k; exact ⟨Nat.le_refl k, Nat.le_refl k⟩
  | succ m ih =>
    intro k
    show k ≤ (if g k = true then dc g m (k + 1) else k) ∧ (if g k = true then dc g m (k + 1) else k) ≤ k + (m + 1)
    by_cases c : g k = true
    · rw [if_pos c]; have := ih (k + 1); omega
    · rw [if_neg c]; omega
noncomputable def isD (fN : Nat → Int32) (nN : Int32) (P k : Nat) : Bool := !decide (F_X1_isDigit (F_X1_letterAt fN nN (nI (P + k))) = 0)
theorem bh_L {fN : Nat → Int32} {nN : Int32} {P lo hi : Nat} (hP : P + hi < 1000) (hlo : lo ≤ hi) : ∀ (m k : Nat), k + m = hi → ∀ f : Nat, m < f → F_X1_behindDigits_L3 fN nN (nI P) (nI lo) (nI hi) f (nI k) = if dc (isD fN nN P) m k < lo then -1 - nI (P + dc (isD fN nN P) m k) else if F_X1_letterAt fN nN (nI (P + dc (isD fN nN P) m k)) = 59 then nI (P + dc (isD fN nN P) m k + 1) else -1 - nI (P + dc (isD fN nN P) m k) := by
  have hlt : ∀ k : Nat, k ≤ hi → (nI k < nI lo ↔ k < lo) := fun k hk => by
    rw [Int32.lt_iff_toInt_lt, nI_toInt (by omega), nI_toInt (by omega)]
    omega
  intro m
  induction m with
  | zero =>
    intro k hk f hf
    match f, hf with
    | f + 1, _ =>
      rw [F_X1_behindDigits_L3, if_pos (show nI hi ≤ nI k from nI_le (by omega) (by omega))]
      dsimp only
      rw [nI_add, nI_1]
      show _ = if k < lo then -1 - nI (P + k) else if F_X1_letterAt fN nN (nI (P + k)) = 59 then nI (P + k + 1) else -1 - nI (P + k)
      by_cases c : k < lo
      · rw [if_pos ((hlt k (by omega)).mpr c), if_pos c]
      · rw [if_neg (fun e => c ((hlt k (by omega)).mp e)), if_neg c]
  | succ m ih =>
    intro k hk f hf
    match f, hf with
    | f + 1, hf =>
      rw [F_X1_behindDigits_L3, if_neg (show ¬ nI hi ≤ nI k from nI_ge (by omega) (by omega))]
      dsimp only
      rw [nI_add, nI_1, nI_1]
      by_cases d : F_X1_isDigit (F_X1_letterAt fN nN (nI (P + k))) = 0
      · have hg : dc (isD fN nN P) (m + 1) k = k := by
          show (if isD fN nN P k = true then dc (isD fN nN P) m (k + 1) else k) = k
          rw [if_neg (by unfold isD; rw [decide_eq_true d]; decide)]
        rw [if_pos d, hg]
        by_cases c : k < lo
        · rw [if_pos ((hlt k (by omega)).mpr c), if_pos c]
        · rw [if_neg (fun e => c ((hlt k (by omega)).mp e)), if_neg c]
      · have hg : dc (isD fN nN P) (m + 1) k = dc (isD fN nN P) m (k + 1) := by
          show (if isD fN nN P k = true then dc (isD fN nN P) m (k + 1) else k) = _
          rw [if_pos (by unfold isD; rw [decide_eq_false d]; rfl)]
        rw [if_neg d, hg]
        exact ih (k + 1) (by omega) f (by omega)
