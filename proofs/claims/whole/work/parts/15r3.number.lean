/-! train: a number read by the reference -/
noncomputable def ac (fN : Nat → Int32) (nN : Int32) (P : Nat) : Nat → Nat → Int32 → Int32
  | 0, _, v => v
  | m + 1, k, v => if isD fN nN P k = true then ac fN nN P m (k + 1) (10 * v + F_X1_letterAt fN nN (nI (P + k)) - 48) else v
theorem rn_L {fN : Nat → Int32} {nN : Int32} {o : Nat → Int32} {a : Nat → Nat → Int32} (h : tO fN nN o a) {P lo hi : Nat} {p0 : Int32} (hP : P + hi < 1000) (hlo : lo ≤ hi) : ∀ (m k : Nat), k + m = hi → ∀ (f : Nat) (v : Int32), m < f → F_X7_readsNumber_L6 o a p0 (nI lo) (nI hi) f (nI (P + k)) v (nI k) = (if dc (isD fN nN P) m k < lo then 0 else 1, nI (P + dc (isD fN nN P) m k), upd (a 22) p0.toNatClampNeg (ac fN nN P m k v)) := by
  have hlt : ∀ k : Nat, k ≤ hi → (nI k < nI lo ↔ k < lo) := fun k hk => by
    rw [Int32.lt_iff_toInt_lt, nI_toInt (by omega), nI_toInt (by omega)]
    omega
  intro m
  induction m with
  | zero =>
    intro k hk f v hf
    match f, hf with
    | f + 1, _ =>
      rw [F_X7_readsNumber_L6, if_pos (show nI hi ≤ nI k from nI_le (by omega) (by omega))]
      show _ = (if k < lo then 0 else 1, nI (P + k), upd (a 22) p0.toNatClampNeg v)
      by_cases c : k < lo
      · rw [if_pos ((hlt k (by omega)).mpr c), if_pos c]
      · rw [if_neg (fun e => c ((hlt k (by omega)).mp e)), if_neg c]
  | succ m ih =>
    intro k hk f v hf
    match f, hf with
    | f + 1, hf =>
      have hn : F_X7_next (upd o 24 (nI (P + k))) a = F_X1_letterAt fN nN (nI (P + k)) := (l_at (o := upd o 24 (nI (P + k))) (a := a) ⟨h.1, h.2.1, h.2.2⟩ (by omega) rfl).symm
      rw [F_X7_readsNumber_L6, if_neg (show ¬ nI hi ≤ nI k from nI_ge (by omega) (by omega))]
      dsimp only
      rw [l_is h (by omega), hn, nI_1, nI_1]
      by_cases d : F_X1_isDigit (F_X1_letterAt fN nN (nI (P + k))) = 0
      · have hf0 : ¬ isD fN nN P k = true := by unfold isD; rw [decide_eq_true d]; decide
        have hg : dc (isD fN nN P) (m + 1) k = k := if_neg hf0
        have ha : ac fN nN P (m + 1) k v = v := if_neg hf0
        rw [if_pos d, hg, ha]
        by_cases c : k < lo
        · rw [if_pos ((hlt k (by omega)).mpr c), if_pos c]
        · rw [if_neg (fun e => c ((hlt k (by omega)).mp e)), if_neg c]
      · have hf1 : isD fN nN P k = true := by unfold isD; rw [decide_eq_false d]; rfl
        have hg : dc (isD fN nN P) (m + 1) k = dc (isD fN nN P) m (k + 1) := if_pos hf1
        have ha : ac fN nN P (m + 1) k v = ac fN nN P m (k + 1) (10 * v + F_X1_letterAt fN nN (nI (P + k)) - 48) := if_pos hf1
        rw [if_neg d, hg, ha]
        exact ih (k + 1) (by omega) f _ (by omega)
