def bt (x : Int32) (i : Nat) : Bool := x.toBitVec.getLsbD i
theorem b_ext {x y : Int32} (h : ∀ i, i < 32 → bt x i = bt y i) : x = y := Int32.toBitVec_inj.mp (BitVec.eq_of_getLsbD_eq (fun i hi => h i hi))
theorem b_or (x y : Int32) (i : Nat) : bt (x ||| y) i = (bt x i || bt y i) := by unfold bt; rw [Int32.toBitVec_or, BitVec.getLsbD_or]
theorem b_and (x y : Int32) (i : Nat) : bt (x &&& y) i = (bt x i && bt y i) := by unfold bt; rw [Int32.toBitVec_and, BitVec.getLsbD_and]
theorem b_xor (x y : Int32) (i : Nat) : bt (x ^^^ y) i = (bt x i ^^ bt y i) := by unfold bt; rw [Int32.toBitVec_xor, BitVec.getLsbD_xor]
theorem b_big {x : Int32} {i : Nat} (h : 32 ≤ i) : bt x i = false := BitVec.getLsbD_of_ge _ _ h
theorem b_255 (i : Nat) : bt 255 i = decide (i < 8) := by
  rcases Nat.lt_or_ge i 32 with h | h
  · exact (by decide +kernel : ∀ i, i < 32 → bt 255 i = decide (i < 8)) i h
  · rw [b_big h, decide_eq_false (by omega)]
theorem b_65535 (i : Nat) : bt 65535 i = decide (i < 16) := by
  rcases Nat.lt_or_ge i 32 with h | h
  · exact (by decide +kernel : ∀ i, i < 32 → bt 65535 i = decide (i < 16)) i h
  · rw [b_big h, decide_eq_false (by omega)]
theorem b_m1 : ∀ i, i < 32 → bt (-1) i = true := by decide +kernel
theorem b_0 (i : Nat) : bt 0 i = false := BitVec.getLsbD_zero
theorem s_l : ∀ n, n < 32 → ((nI n &&& 31).toBitVec.smod 32).toNat = n := by decide +kernel
theorem s_u : ∀ n, n < 32 → (((nI n).toUInt32 &&& Int32.toUInt32 31).toBitVec % 32).toNat = n := by decide +kernel
theorem b_shl (n : Nat) (hn : n < 32) (x : Int32) {i : Nat} (hi : i < 32) : bt (x <<< (nI n &&& 31)) i = (decide (n ≤ i) && bt x (i - n)) := by
  unfold bt
  rw [Int32.toBitVec_shiftLeft]
  show (x.toBitVec <<< ((nI n &&& 31).toBitVec.smod 32).toNat).getLsbD i = _
  rw [s_l n hn, BitVec.getLsbD_shiftLeft]
  rcases Nat.lt_or_ge i n with h | h
  · simp [h, Nat.not_le.mpr h]
  · simp [hi, h, Nat.not_lt.mpr h]
theorem b_ushr (n : Nat) (hn : n < 32) (x : Int32) (i : Nat) : bt ((x.toUInt32 >>> ((nI n).toUInt32 &&& Int32.toUInt32 31)).toInt32) i = bt x (n + i) := by
  show (x.toUInt32 >>> ((nI n).toUInt32 &&& Int32.toUInt32 31)).toBitVec.getLsbD i = x.toUInt32.toBitVec.getLsbD (n + i)
  rw [UInt32.toBitVec_shiftRight]
  show (x.toUInt32.toBitVec >>> (((nI n).toUInt32 &&& Int32.toUInt32 31).toBitVec % 32).toNat).getLsbD i = _
  rw [s_u n hn, BitVec.getLsbD_ushiftRight]
theorem b_sshr (n : Nat) (hn : n < 32) (x : Int32) {i : Nat} (hi : i < 32) : bt (x >>> (nI n &&& 31)) i = if n + i < 32 then bt x (n + i) else bt x 31 := by
  unfold bt
  rw [Int32.toBitVec_shiftRight]
  show (x.toBitVec.sshiftRight ((nI n &&& 31).toBitVec.smod 32).toNat).getLsbD i = _
  rw [s_l n hn, BitVec.getLsbD_sshiftRight, BitVec.msb_eq_getLsbD_last]
  simp [hi]
theorem b_1 (i : Nat) : bt 1 i = decide (i = 0) := by
  rcases Nat.lt_or_ge i 32 with h | h
  · exact (by decide +kernel : ∀ i, i < 32 → bt 1 i = decide (i = 0)) i h
  · rw [b_big h, decide_eq_false (by omega)]
theorem b_and1 (x : Int32) : x &&& 1 = 0 ↔ bt x 0 = false := by
  constructor
  · intro h
    have t : bt (x &&& 1) 0 = bt 0 0 := by rw [h]
    rw [b_and, b_1, b_0, decide_eq_true rfl, Bool.and_true] at t
    exact t
  · intro h
    apply b_ext
    intro i _
    rw [b_and, b_1, b_0]
    by_cases e : i = 0
    · subst e; rw [h, Bool.false_and]
    · rw [decide_eq_false e, Bool.and_false]
theorem b_bit {m : Int32} {j : Nat} (hj : j < 32) : (m >>> (nI j &&& 31)) &&& 1 = 0 ↔ bt m j = false := by
  rw [b_and1, b_sshr j hj m (by omega), Nat.add_zero, if_pos hj]
theorem b_tw {j i : Nat} (hj : j < 32) (hi : i < 32) : bt ((1 : Int32) <<< (nI j &&& 31)) i = decide (i = j) := by
  rw [b_shl j hj 1 hi, b_1]
  by_cases e : i = j
  · subst e; simp
  · rw [decide_eq_false e]
    rcases Nat.lt_or_ge i j with g | g
    · rw [decide_eq_false (Nat.not_le.mpr g), Bool.false_and]
    · rw [decide_eq_false (p := i - j = 0) (by omega), Bool.and_false]
theorem b_set {m : Int32} {j i : Nat} (hj : j < 32) (hi : i < 32) : bt (m ||| ((1 : Int32) <<< (nI j &&& 31))) i = (bt m i || decide (i = j)) := by
  rw [b_or, b_tw hj hi]
theorem x_nI {x : Int32} (h : 0 ≤ x.toInt) : x = nI x.toNatClampNeg := by
  have h2 := x.toInt_lt
  have h3 : x.toNatClampNeg = x.toInt.toNat := rfl
  apply Int32.toInt_inj.mp
  rw [nI_toInt (by omega), h3]
  omega
theorem x_nIt {x : Int32} (h : 0 ≤ x.toInt) : x = nI x.toInt.toNat := x_nI h
theorem b_bitI {m l : Int32} (h0 : 0 ≤ l.toInt) (h1 : l.toInt < 32) : (m >>> (l &&& 31)) &&& 1 = 0 ↔ bt m l.toNatClampNeg = false := by
  have h3 : l.toNatClampNeg = l.toInt.toNat := rfl
  have e := x_nI h0
  generalize l.toNatClampNeg = j at *
  subst e
  exact b_bit (by omega)
theorem unr_s (m : Int32) {j : Nat} (hj : j < 32) : unr m (j + 1) = unr m j + (if bt m j = false then 1 else 0) := by
  show unr m j + (if (m >>> (nI j &&& 31)) &&& 1 = 0 then 1 else 0) = _
  by_cases h : bt m j = false
  · rw [if_pos h, if_pos ((b_bit hj).mpr h)]
  · rw [if_neg h, if_neg (fun e => h ((b_bit hj).mp e))]
theorem unr_c {m m' : Int32} : ∀ k : Nat, k ≤ 32 → (∀ i, i < k → bt m i = bt m' i) → unr m k = unr m' k := by
  intro k
  induction k with
  | zero => intros; rfl
  | succ k ih =>
    intro hk h
    rw [unr_s m (by omega), unr_s m' (by omega), ih (by omega) (fun i hi => h i (by omega)), h k (by omega)]
theorem unr_set {m : Int32} {j : Nat} (hb : bt m j = false) : ∀ k : Nat, k ≤ 32 → j < k → unr (m ||| ((1 : Int32) <<< (nI j &&& 31))) k + 1 = unr m k := by
  intro k
  induction k with
  | zero => intro _ h; omega
  | succ k ih =>
    intro hk hj
    rw [unr_s _ (by omega), unr_s m (by omega), b_set (by omega) (by omega)]
    by_cases e : k = j
    · subst e
      rw [hb, Bool.false_or, decide_eq_true rfl, if_neg (by decide), if_pos rfl, unr_c (m := m ||| ((1 : Int32) <<< (nI k &&& 31))) (m' := m) k (by omega) (fun i hi => by rw [b_set (by omega) (by omega), decide_eq_false (by omega), Bool.or_false])]
    · rw [decide_eq_false e, Bool.or_false]
      have := ih (by omega) (by omega)
      generalize (if bt m k = false then 1 else 0) = z
      omega
theorem unr_le (m : Int32) : ∀ k : Nat, k ≤ 32 → unr m k ≤ k := by
  intro k
  induction k with
  | zero => intro _; exact Nat.le_refl 0
  | succ k ih =>
    intro hk
    rw [unr_s m (by omega)]
    have := ih (by omega)
    split <;> omega
/-- the first of the places k .. k + m - 1 with P -/
def fr (P : Nat → Bool) : Nat → Nat → Option Nat
  | 0, _ => none
  | m + 1, k => if P k = true then some k else fr P m (k + 1)
theorem fr_s {P : Nat → Bool} {m k : Nat} : fr P (m + 1) k = if P k = true then some k else fr P m (k + 1) := rfl
/-- told as an int: -9 without such -/
def eo : Option Nat → Int32
  | none => -9
  | some j => nI j
theorem fr_some {P : Nat → Bool} : ∀ (m k j : Nat), fr P m k = some j → (k ≤ j ∧ j < k + m) ∧ P j = true ∧ ∀ i, k ≤ i → i < j → P i = false := by
  intro m
  induction m with
  | zero => intro k j h; cases h
  | succ m ih =>
    intro k j h
    rw [fr_s] at h
    by_cases c : P k = true
    · rw [if_pos c] at h
      cases h
      exact ⟨⟨Nat.le_refl _, by omega⟩, c, fun i h1 h2 => by omega⟩
    · rw [if_neg c] at h
      obtain ⟨h1, h2, h3⟩ := ih (k + 1) j h
      refine ⟨⟨by omega, by omega⟩, h2, fun i hi hj => ?_⟩
      by_cases e : i = k
      · subst e; exact Bool.eq_false_iff.mpr c
      · exact h3 i (by omega) hj
theorem fr_none {P : Nat → Bool} : ∀ (m k : Nat), fr P m k = none → ∀ i, k ≤ i → i < k + m → P i = false := by
  intro m
  induction m with
  | zero => intro k _ i h1 h2; omega
  | succ m ih =>
    intro k h i h1 h2
    rw [fr_s] at h
    by_cases c : P k = true
    · rw [if_pos c] at h; cases h
    · rw [if_neg c] at h
      by_cases e : i = k
      · subst e; exact Bool.eq_false_iff.mpr c
      · exact ih (k + 1) h i (by omega) (by omega)
theorem fr_c {P Q : Nat → Bool} : ∀ (m k : Nat), (∀ i, k ≤ i → i < k + m → P i = Q i) → fr P m k = fr Q m k := by
  intro m
  induction m with
  | zero => intros; rfl
  | succ m ih =>
    intro k h
    rw [fr_s, fr_s, h k (Nat.le_refl _) (by omega), ih (k + 1) (fun i h1 h2 => h i (by omega) (by omega))]
theorem eo_n9 {j : Nat} (h : j < 1000) : ¬ nI j = -9 := fun e => by
  have := congrArg Int32.toInt e
  rw [nI_toInt (by omega), show (-9 : Int32).toInt = -9 from rfl] at this
  omega
/-- a line of column c that is not read -/
def un (col : Nat → Int32) (rd c : Int32) : Nat → Bool := fun j => decide (col j = c) && !bt rd j
theorem un_d {col : Nat → Int32} {rd c : Int32} {j : Nat} : un col rd c j = (decide (col j = c) && !bt rd j) := rfl
theorem fi_go (o : Nat → Int32) (a : Nat → Nat → Int32) (c : Int32) {N : Nat} (hN : (o 13).toInt = N) (hN8 : N ≤ 8) : ∀ (m k : Nat), k + m = N → ∀ f : Nat, m < f → F_X7_firstIn_L30 o a c f (nI k) = eo (fr (un (a 1) (o 34) c) m k) := by
  intro m
  induction m with
  | zero =>
    intro k hk f hf
    match f, hf with
    | f + 1, _ =>
      rw [F_X7_firstIn_L30, if_pos]
      · rfl
      · rw [Int32.le_iff_toInt_le, hN, nI_toInt (by omega)]; omega
  | succ m ih =>
    intro k hk f hf
    match f, hf with
    | f + 1, hf =>
      rw [F_X7_firstIn_L30, if_neg (by rw [Int32.le_iff_toInt_le, hN, nI_toInt (by omega)]; omega)]
      have hr := ih (k + 1) (by omega) f (by omega)
      dsimp only
      rw [nI_clamp (by omega), nI_1, hr]
      rw [fr_s, un_d]
      by_cases h1 : a 1 k = c
      · rw [if_pos h1]
        by_cases h2 : bt (o 34) k = false
        · rw [if_pos ((b_bit (by omega)).mpr h2), if_pos (by rw [decide_eq_true h1, h2]; rfl)]
          rfl
        · rw [if_neg (fun e => h2 ((b_bit (by omega)).mp e)), if_neg (by rw [Bool.of_not_eq_false h2]; simp)]
      · rw [if_neg h1, if_neg (by rw [decide_eq_false h1]; simp)]
theorem fi_eq (o : Nat → Int32) (a : Nat → Nat → Int32) (c : Int32) {N : Nat} (hN : (o 13).toInt = N) (hN8 : N ≤ 8) : F_X7_firstIn o a c = if o 35 = 1 ∨ F_X7_isShown o a c (a 5 (o 30).toNatClampNeg) = 0 then -9 else eo (fr (un (a 1) (o 34) c) N 0) := by
  unfold F_X7_firstIn
  dsimp only
  by_cases h1 : o 35 = 1
  · rw [if_pos h1, if_pos (Or.inl h1)]
  · rw [if_neg h1]
    by_cases h2 : F_X7_isShown o a c (a 5 (o 30).toNatClampNeg) = 0
    · rw [if_pos h2, if_pos (Or.inr h2)]
    · rw [if_neg h2, if_neg (fun h => h.elim h1 h2)]
      exact fi_go o a c hN hN8 N 0 (by omega) _ (by rw [hN, show (0 : Int32).toInt = 0 from rfl]; omega)
/-- what is read on: a line that is there, of the column, not read -/
theorem fi_in {o : Nat → Int32} {a : Nat → Nat → Int32} {c r : Int32} {N : Nat} (hN : (o 13).toInt = N) (hN8 : N ≤ 8) (e : r = F_X7_firstIn o a c) (h : 0 ≤ r) : ∃ j, j < N ∧ r = nI j ∧ bt (o 34) j = false ∧ a 1 j = c := by
  rw [fi_eq o a c hN hN8] at e
  by_cases h1 : o 35 = 1 ∨ F_X7_isShown o a c (a 5 (o 30).toNatClampNeg) = 0
  · rw [if_pos h1] at e; subst e; exact absurd h (by decide)
  · rw [if_neg h1] at e
    cases hf : fr (un (a 1) (o 34) c) N 0 with
    | none => rw [hf] at e; subst e; exact absurd h (by decide)
    | some j =>
      rw [hf] at e
      obtain ⟨g1, g2, -⟩ := fr_some _ _ _ hf
      unfold un at g2
      rw [Bool.and_eq_true, decide_eq_true_iff, Bool.not_eq_true'] at g2
      exact ⟨j, by omega, e, g2.2, g2.1⟩
theorem dv_t (a b : Int64) (hb : b.toInt ≠ 0) : (a - a / b * b).toInt = a.toInt.tmod b.toInt := by
  have h1 := a.le_toInt
  have h2 := a.toInt_lt
  have h3 := b.le_toInt
  have h4 := b.toInt_lt
  rw [Int64.toInt_sub, Int64.toInt_mul, Int64.toInt_div, Int.bmod_mul_bmod, Int.sub_bmod_bmod]
  have h5 : a.toInt - a.toInt.tdiv b.toInt * b.toInt = a.toInt.tmod b.toInt := by rw [Int.tmod_def, Int.mul_comm]
  rw [h5]
  have h6 := Int.natAbs_tmod a.toInt b.toInt
  have h7 : a.toInt.natAbs % b.toInt.natAbs < b.toInt.natAbs := Nat.mod_lt _ (by omega)
  exact Int.bmod_eq_of_le (by omega) (by omega)
theorem dv_n0 {y : Int64} {x : Int32} (e : x = lg_cmp y 0) (c : ¬ x = 0) : ¬ y = 0 := fun h => c (e.trans ((lg_cmp_eq y 0).mpr h))
theorem dv_i0 {y : Int64} (h : ¬ y = 0) : y.toInt ≠ 0 := fun q => h (Int64.toInt_inj.mp q)
theorem dv_dec {a b x : Int64} {z : Int32} {nf : Nat} (e : x = a - a / b * b) (ez : z = lg_cmp b 0) (c : ¬ z = 0) (hm : b.toInt.natAbs < nf + 1) : x.toInt.natAbs < nf := by
  have h0 := dv_i0 (dv_n0 ez c)
  rw [e, dv_t a b h0, Int.natAbs_tmod]
  have h7 : a.toInt.natAbs % b.toInt.natAbs < b.toInt.natAbs := Nat.mod_lt _ (by omega)
  omega
theorem dv_down {p : Int32} {x y : Int64} (ex : x = p.toInt64) (ey : y = x + 1) (h0 : 0 ≤ p.toInt) (h1 : p.toInt ≤ 20) : ¬ y = 0 := by
  have hp := x_nIt h0
  have hn : p.toInt.toNat ≤ 20 := by omega
  rw [ey, ex, hp, nI_l (by omega), lN_1]
  intro h
  have := (lN_eq (a := p.toInt.toNat + 1) (b := 0) (by omega) (by omega)).mp h
  omega
