/-! the sheet, the holder: the class's functions are the reference's -/
def rS (q : Nat → Nat → Int32) (n : Int32) (o : Nat → Int32) (a : Nat → Nat → Int32) : Prop := n = o 13 ∧ n.toInt ≤ 8 ∧ ∀ j, j < 8 → q 0 j = a 1 j ∧ q 1 j = a 2 j ∧ q 2 j = a 3 j ∧ q 3 j = a 4 j
theorem p_lt8 {l : Int32} (h0 : 0 ≤ l.toInt) (h1 : l.toInt < 8) : l.toNatClampNeg < 8 := by
  show l.toInt.toNat < 8
  omega
theorem p_at {f : Nat → Int32} {l : Int32} (h0 : 0 ≤ l.toInt) (h1 : l.toInt < 8) : F_X6_at f 8 l = f l.toNatClampNeg := by
  unfold F_X6_at
  rw [if_neg (by rw [Int32.lt_iff_toInt_lt, Int32.toInt_zero]; omega), if_neg (by rw [Int32.le_iff_toInt_le, show (nI 8).toInt = 8 from rfl]; omega)]
theorem p_0 {q : Nat → Nat → Int32} {n l : Int32} {o : Nat → Int32} {a : Nat → Nat → Int32} (R : rS q n o a) (h0 : 0 ≤ l.toInt) (h1 : l.toInt < 8) : F_X6_at (q 0) 8 l = a 1 l.toNatClampNeg := (p_at h0 h1).trans (R.2.2 _ (p_lt8 h0 h1)).1
theorem p_1 {q : Nat → Nat → Int32} {n l : Int32} {o : Nat → Int32} {a : Nat → Nat → Int32} (R : rS q n o a) (h0 : 0 ≤ l.toInt) (h1 : l.toInt < 8) : F_X6_at (q 1) 8 l = a 2 l.toNatClampNeg := (p_at h0 h1).trans (R.2.2 _ (p_lt8 h0 h1)).2.1
theorem p_2 {q : Nat → Nat → Int32} {n l : Int32} {o : Nat → Int32} {a : Nat → Nat → Int32} (R : rS q n o a) (h0 : 0 ≤ l.toInt) (h1 : l.toInt < 8) : F_X6_at (q 2) 8 l = a 3 l.toNatClampNeg := (p_at h0 h1).trans (R.2.2 _ (p_lt8 h0 h1)).2.2.1
theorem p_3 {q : Nat → Nat → Int32} {n l : Int32} {o : Nat → Int32} {a : Nat → Nat → Int32} (R : rS q n o a) (h0 : 0 ≤ l.toInt) (h1 : l.toInt < 8) : F_X6_at (q 3) 8 l = a 4 l.toNatClampNeg := (p_at h0 h1).trans (R.2.2 _ (p_lt8 h0 h1)).2.2.2
theorem p_kind {q : Nat → Nat → Int32} {n l : Int32} {o : Nat → Int32} {a : Nat → Nat → Int32} (R : rS q n o a) (h0 : 0 ≤ l.toInt) (h1 : l.toInt < 8) : F_X5_kindOf q n l = a 2 l.toNatClampNeg := p_1 R h0 h1
theorem p_figure {q : Nat → Nat → Int32} {n l : Int32} {o : Nat → Int32} {a : Nat → Nat → Int32} (R : rS q n o a) (h0 : 0 ≤ l.toInt) (h1 : l.toInt < 8) : F_X5_figureOf q n l = a 3 l.toNatClampNeg := p_2 R h0 h1
theorem p_seconds {q : Nat → Nat → Int32} {n l : Int32} {o : Nat → Int32} {a : Nat → Nat → Int32} (R : rS q n o a) (h0 : 0 ≤ l.toInt) (h1 : l.toInt < 8) : F_X5_secondsOf q n l = a 4 l.toNatClampNeg := p_3 R h0 h1
theorem p_column {q : Nat → Nat → Int32} {n l : Int32} {o : Nat → Int32} {a : Nat → Nat → Int32} (R : rS q n o a) (h0 : 0 ≤ l.toInt) (h1 : l.toInt < 8) : F_X5_columnOf q n l = a 1 l.toNatClampNeg := p_0 R h0 h1
theorem p_aheadL {q : Nat → Nat → Int32} {n p : Int32} {o : Nat → Int32} {a : Nat → Nat → Int32} (R : rS q n o a) (hp0 : 0 ≤ p.toInt) (hp : p.toInt < n.toInt) : ∀ (k : Nat) (v2 v3 : Int32), 0 ≤ v3.toInt → F_X5_aheadOf_L4 q n p k v2 v3 = F_X7_ahead_L4 o a p k v2 v3 := by
  have hn := R.2.1
  intro k
  induction k with
  | zero => intro v2 v3 _; rfl
  | succ k ih =>
    intro v2 v3 h
    rw [F_X5_aheadOf_L4, F_X7_ahead_L4]
    by_cases c : p ≤ v3
    · rw [if_pos c, if_pos c]
    · have c1 := i_nle c
      rw [if_neg c, if_neg c, if_neg (by rw [Int32.le_iff_toInt_le]; omega)]
      dsimp only
      rw [p_0 R h (by omega), p_0 R hp0 (by omega)]
      have hv : 0 ≤ (v3 + 1).toInt := by rw [x_add1 (by omega)]; omega
      by_cases d : a 1 v3.toNatClampNeg = a 1 p.toNatClampNeg
      · rw [if_pos d, if_pos d]; exact ih _ _ hv
      · rw [if_neg d, if_neg d, Int32.add_zero]; exact ih _ _ hv
theorem p_ahead {q : Nat → Nat → Int32} {n p : Int32} {o : Nat → Int32} {a : Nat → Nat → Int32} (R : rS q n o a) (hp0 : 0 ≤ p.toInt) (hp : p.toInt < n.toInt) : F_X5_aheadOf q n p = F_X7_ahead o a p := p_aheadL R hp0 hp _ 0 0 (by decide)
/-- a guess is helped by the line just ahead -/
def jh (a : Nat → Nat → Int32) (b : Int32) : Int32 := if b < 0 then 0 else if a 2 b.toNatClampNeg = 3 then 0 else 1
theorem p_helpL {q : Nat → Nat → Int32} {n p : Int32} {o : Nat → Int32} {a : Nat → Nat → Int32} (R : rS q n o a) (hp0 : 0 ≤ p.toInt) (hp : p.toInt < n.toInt) : ∀ (k : Nat) (b v3 : Int32), (p.toInt - v3.toInt).toNat < k → 0 ≤ v3.toInt → F_X5_isHelped_L4 q n p k (jh a b) v3 = jh a (F_X7_justAhead_L5 o a p k b v3) := by
  have hn := R.2.1
  intro k
  induction k with
  | zero => intro b v3 hm _; exact absurd hm (Nat.not_lt_zero _)
  | succ k ih =>
    intro b v3 hm h
    rw [F_X5_isHelped_L4, F_X7_justAhead_L5]
    by_cases c : p ≤ v3
    · rw [if_pos c, if_pos c]
    · have c1 := i_nle c
      rw [if_neg c, if_neg c, if_neg (by rw [Int32.le_iff_toInt_le]; omega)]
      dsimp only
      rw [p_0 R h (by omega), p_0 R hp0 (by omega), p_1 R h (by omega)]
      have hv : 0 ≤ (v3 + 1).toInt := by rw [x_add1 (by omega)]; omega
      have hm2 := x_up c hm
      by_cases d : a 1 v3.toNatClampNeg = a 1 p.toNatClampNeg
      · rw [if_pos d, if_pos d]
        have e := ih v3 (v3 + 1) hm2 hv
        rw [← e]
        have hneg : ¬ v3 < 0 := by rw [Int32.lt_iff_toInt_lt, Int32.toInt_zero]; omega
        by_cases g : a 2 v3.toNatClampNeg = 3
        · rw [if_pos g, jh, if_neg hneg, if_pos g]
        · rw [if_neg g, jh, if_neg hneg, if_neg g]
      · rw [if_neg d, if_neg d]; exact ih b _ hm2 hv
theorem p_help {q : Nat → Nat → Int32} {n p : Int32} {o : Nat → Int32} {a : Nat → Nat → Int32} (R : rS q n o a) (hp0 : 0 ≤ p.toInt) (hp : p.toInt < n.toInt) : F_X5_isHelped q n p = jh a (F_X7_justAhead o a p) := p_helpL R hp0 hp _ (-9) 0 (Nat.lt_succ_self _) (by decide)
theorem p_worth {q : Nat → Nat → Int32} {n p : Int32} {o : Nat → Int32} {a : Nat → Nat → Int32} (R : rS q n o a) (hp0 : 0 ≤ p.toInt) (hp : p.toInt < n.toInt) : F_X5_worthOf q n p = F_X7_worthOf o a p := by
  have hn := R.2.1
  unfold F_X5_worthOf F_X7_worthOf
  dsimp only
  rw [p_figure R hp0 (by omega), p_kind R hp0 (by omega), p_help R hp0 hp, p_ahead R hp0 hp]
  by_cases c1 : a 2 p.toNatClampNeg = 1
  · rw [if_pos c1, if_pos c1]
  · rw [if_neg c1, if_neg c1]
    by_cases c2 : a 2 p.toNatClampNeg = 2
    · rw [if_pos c2, if_pos c2]
    · rw [if_neg c2, if_neg c2]
      by_cases c3 : a 2 p.toNatClampNeg = 3
      · rw [if_pos c3, if_pos c3]
        generalize F_X7_justAhead o a p = b
        unfold jh
        by_cases d : b < 0
        · rw [if_pos d, if_pos d, if_pos rfl]
        · rw [if_neg d, if_neg d]
          by_cases g : a 2 b.toNatClampNeg = 3
          · rw [if_pos g, if_pos g, if_pos rfl]
          · rw [if_neg g, if_neg g, if_neg (by decide)]
      · rw [if_neg c3, if_neg c3]
theorem p_and1 (x : Int32) : x &&& 1 = 0 ∨ x &&& 1 = 1 := by
  obtain ⟨j, hj, e⟩ := pk_andE x (m := 1) 1 (by decide)
  match j, hj with
  | 0, _ => exact Or.inl e
  | 1, _ => exact Or.inr e
theorem p_worthsL {q : Nat → Nat → Int32} {n p : Int32} {o : Nat → Int32} {a : Nat → Nat → Int32} (R : rS q n o a) : ∀ (k : Nat) (v2 v3 : Int32), 0 ≤ v3.toInt → F_X5_worthOfBits_L4 q n p k v2 v3 = F_X7_worthOfAll_L4 o a p k v2 v3 := by
  have hn := R.2.1
  intro k
  induction k with
  | zero => intro v2 v3 _; rfl
  | succ k ih =>
    intro v2 v3 h
    rw [F_X5_worthOfBits_L4, F_X7_worthOfAll_L4, ← R.1]
    by_cases c : n ≤ v3
    · rw [if_pos c, if_pos c]
    · have c1 := i_nle c
      rw [if_neg c, if_neg c]
      dsimp only
      have hv : 0 ≤ (v3 + 1).toInt := by rw [x_add1 (by omega)]; omega
      rcases p_and1 (p >>> (v3 &&& 31)) with d | d
      · rw [if_pos d, if_neg (by rw [d]; decide), Int32.add_zero]; exact ih _ _ hv
      · rw [if_neg (by rw [d]; decide), if_pos d, p_worth R h (by omega)]; exact ih _ _ hv
theorem p_worths {q : Nat → Nat → Int32} {n p : Int32} {o : Nat → Int32} {a : Nat → Nat → Int32} (R : rS q n o a) : F_X5_worthOfBits q n p = F_X7_worthOfAll o a p := by
  unfold F_X5_worthOfBits F_X7_worthOfAll
  rw [R.1]
  have := p_worthsL (p := p) R ((((o 13).toInt - (0 : Int32).toInt).toNat) + 1) 0 0 (by decide)
  rw [← R.1] at this ⊢
  exact this
theorem p_half (x : Int32) : (if 1 < x / 2 then x / 2 else 1) = if x ≤ 1 then 1 else x / 2 := by
  have h2 := fb_rng0 x
  have h3 : (x / 2).toInt = x.toInt.tdiv 2 := by
    rw [Int32.toInt_div_of_ne_right x 2 (by decide)]
    rfl
  by_cases c : x ≤ 1
  · rw [if_pos c, if_neg]
    have c1 := i_le c
    rw [show (1 : Int32).toInt = 1 from rfl] at c1
    rw [Int32.lt_iff_toInt_lt, h3, show (1 : Int32).toInt = 1 from rfl]
    rcases Int.lt_or_le x.toInt 0 with g | g
    · have h4 : (-x.toInt).tdiv 2 = -(x.toInt.tdiv 2) := Int.neg_tdiv _ _
      rw [Int.tdiv_eq_ediv_of_nonneg (by omega)] at h4
      omega
    · rw [Int.tdiv_eq_ediv_of_nonneg g]
      omega
  · rw [if_neg c]
    have c1 := i_nle c
    rw [show (1 : Int32).toInt = 1 from rfl] at c1
    by_cases d : 1 < x / 2
    · rw [if_pos d]
    · rw [if_neg d]
      have d1 := i_nlt d
      rw [h3, show (1 : Int32).toInt = 1 from rfl] at d1
      apply Int32.toInt_inj.mp
      rw [h3, show (1 : Int32).toInt = 1 from rfl]
      rw [Int.tdiv_eq_ediv_of_nonneg (by omega)] at d1 ⊢
      omega
theorem p_cost {q : Nat → Nat → Int32} {n l pc : Int32} {o : Nat → Int32} {a : Nat → Nat → Int32} {k : Int32} (R : rS q n o a) (hp0 : 0 ≤ l.toInt) (hp : l.toInt < n.toInt) (hk : pc = a 6 k.toNatClampNeg) : F_X5_costOf q n l pc = F_X7_takesOf o a l k := by
  have hn := R.2.1
  unfold F_X5_costOf F_X7_takesOf
  dsimp only
  rw [p_figure R hp0 (by omega), p_kind R hp0 (by omega), p_seconds R hp0 (by omega), hk, p_half]
/-- the holder -/
def rB (g : Nat → Int32) (o : Nat → Int32) : Prop := g 0 = o 15 ∧ g 1 = o 16 ∧ g 2 = o 17 ∧ g 3 = o 18
theorem p_max0 (x : Int32) : (if 0 < x then x else 0) = if 0 ≤ x then x else 0 := by
  by_cases c : 0 < x
  · rw [if_pos c, if_pos (by rw [Int32.le_iff_toInt_le]; have := i_lt c; omega)]
  · rw [if_neg c]
    by_cases d : 0 ≤ x
    · rw [if_pos d]
      apply Int32.toInt_inj.mp
      have := i_nlt c
      have := i_le d
      omega
    · rw [if_neg d]
theorem p_turns {g : Nat → Int32} {o : Nat → Int32} {a : Nat → Nat → Int32} {m : Int32} (R : rB g o) (h4 : g 4 = 0) : F_X0_turnsAt g m = F_X7_turnsFor o a m := by
  unfold F_X0_turnsAt F_X0_delay F_X7_turnsFor
  dsimp only
  rw [R.1, R.2.1, R.2.2.1, h4, Int32.sub_zero]
  by_cases c1 : o 15 = 1
  · rw [if_pos c1, if_pos c1, p_max0]
  · rw [if_neg c1, if_neg c1]
    by_cases c2 : o 15 = 2
    · rw [if_pos c2, if_pos c2, p_max0]
    · rw [if_neg c2, if_neg c2]
      by_cases c3 : o 15 = 3
      · rw [if_pos c3, if_pos c3, p_max0, show o 17 + -4 * m = o 17 - 4 * m from by rw [Int32.neg_mul, Int32.sub_eq_add_neg]]
      · rw [if_neg c3, if_neg c3]
        by_cases c4 : o 15 = 4
        · rw [if_pos c4, if_pos c4, p_max0, show o 17 + (-4 * m - o 16) = o 17 - (4 * m + o 16) from by rw [Int32.neg_mul, Int32.sub_eq_add_neg, Int32.sub_eq_add_neg, Int32.neg_add, Int32.sub_eq_add_neg]]
        · rw [if_neg c4, if_neg c4, Int32.add_zero, p_max0]
