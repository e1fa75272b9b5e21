/-! chance: the divisor, time gone by sooner -/
theorem cd_L {A B : Nat} (hA : A < 2 ^ 31) (hB : 1 ≤ B) (hB2 : B < 2 ^ 31) : ∀ v : Nat, 1 ≤ v → v ≤ B → (∀ w, v < w → w ≤ B → ¬ (w ∣ A ∧ w ∣ B)) → ∀ f : Nat, v ≤ f → F_X6_commonDivisor_L2 (nI A) (nI B) f (nI v) = nI (Nat.gcd A B) := by
  have hg1 : 1 ≤ Nat.gcd A B := Nat.gcd_pos_of_pos_right A hB
  have hg2 : Nat.gcd A B ≤ B := Nat.le_of_dvd hB (Nat.gcd_dvd_right A B)
  have hgd : Nat.gcd A B ∣ A ∧ Nat.gcd A B ∣ B := ⟨Nat.gcd_dvd_left A B, Nat.gcd_dvd_right A B⟩
  intro v
  induction v with
  | zero => intro h; omega
  | succ v ih =>
    intro _ hvB hn f hf
    match f, hf with
    | f + 1, hf =>
      by_cases c1 : v + 1 = 1
      · have e : Nat.gcd A B = 1 := by
          rcases Nat.lt_or_ge 1 (Nat.gcd A B) with c | c
          · exact absurd hgd (hn _ (by omega) hg2)
          · omega
        rw [F_X6_commonDivisor_L2, if_pos (show nI (v + 1) ≤ 1 by rw [c1]; decide), e]
        rfl
      · have hle : ¬ nI (v + 1) ≤ 1 := by rw [Int32.le_iff_toInt_le, nI_toInt (by omega), show (1 : Int32).toInt = 1 from rfl]; omega
        have h0 : ∀ t : Nat, t < 2 ^ 31 → (nI t = 0 ↔ t = 0) := fun t ht => ⟨fun e => by
          have := congrArg Int32.toInt e
          rw [nI_toInt ht, show (0 : Int32).toInt = 0 from rfl] at this
          omega, fun e => by rw [e]; rfl⟩
        have hm1 : A % (v + 1) < v + 1 := Nat.mod_lt _ (by omega)
        have hm2 : B % (v + 1) < v + 1 := Nat.mod_lt _ (by omega)
        have hp : nI (v + 1) + (-1) = nI v := by rw [← Int32.sub_eq_add_neg, nI_pred]
        have hrec : ¬ ((v + 1) ∣ A ∧ (v + 1) ∣ B) → F_X6_commonDivisor_L2 (nI A) (nI B) f (nI v) = nI (Nat.gcd A B) := fun hh => ih (by omega) (by omega) (fun w h1 h2 => by
          by_cases e : w = v + 1
          · rw [e]; exact hh
          · exact hn w (by omega) h2) f (by omega)
        rw [F_X6_commonDivisor_L2, if_neg hle]
        dsimp only
        rw [pk_rem hA (by omega) (by omega), pk_rem hB2 (by omega) (by omega), hp]
        by_cases d1 : A % (v + 1) = 0
        · rw [if_pos ((h0 _ (by omega)).mpr d1)]
          by_cases d2 : B % (v + 1) = 0
          · rw [if_pos ((h0 _ (by omega)).mpr d2)]
            have h1 : v + 1 ≤ Nat.gcd A B := Nat.le_of_dvd (by omega) (Nat.dvd_gcd (Nat.dvd_of_mod_eq_zero d1) (Nat.dvd_of_mod_eq_zero d2))
            rcases Nat.lt_or_ge (v + 1) (Nat.gcd A B) with c | c
            · exact absurd hgd (hn _ c hg2)
            · rw [show Nat.gcd A B = v + 1 by omega]
          · rw [if_neg (fun e => d2 ((h0 _ (by omega)).mp e))]
            exact hrec (fun e => d2 (Nat.mod_eq_zero_of_dvd e.2))
        · rw [if_neg (fun e => d1 ((h0 _ (by omega)).mp e))]
          exact hrec (fun e => d1 (Nat.mod_eq_zero_of_dvd e.1))
theorem cd_ok {A B : Nat} (hA : A < 2 ^ 31) (hB : 1 ≤ B) (hB2 : B < 2 ^ 31) : F_X6_commonDivisor (nI A) (nI B) = nI (Nat.gcd A B) := by
  unfold F_X6_commonDivisor
  exact cd_L hA hB hB2 B hB (Nat.le_refl B) (fun w h1 h2 => by omega) _ (by rw [nI_toInt hB2]; omega)
theorem eu_L {p0 p1 : Int64} : ∀ (n A B : Nat) (a b : Int64), B < n → a.toInt = (A : Int) → b.toInt = (B : Int) → (F_X7_divisor_L6 p0 p1 n a b).toInt = (Nat.gcd A B : Int) := by
  intro n
  induction n with
  | zero => intro A B a b h; omega
  | succ n ih =>
    intro A B a b h ha hb
    rw [F_X7_divisor_L6]
    dsimp only
    by_cases c : B = 0
    · have hb0 : b = 0 := Int64.toInt_inj.mp (by rw [hb, c]; rfl)
      rw [if_pos ((lg_cmp_eq b 0).mpr hb0), c, Nat.gcd_zero_right]
      exact ha
    · have hb0 : ¬ b = 0 := fun e => c (by
        have := hb
        rw [e, show (0 : Int64).toInt = 0 from rfl] at this
        omega)
      rw [if_neg (fun e => hb0 ((lg_cmp_eq b 0).mp e))]
      have hr : (a - a / b * b).toInt = ((A % B : Nat) : Int) := by
        rw [dv_t a b (dv_i0 hb0), ha, hb]
        exact (Int.ofNat_tmod A B).symm
      have hm : A % B < B := Nat.mod_lt _ (by omega)
      rw [ih B (A % B) b (a - a / b * b) (by omega) hb hr, Nat.gcd_comm B (A % B), ← Nat.gcd_rec B A, Nat.gcd_comm B A]
theorem eu_ok {A B : Nat} (hA : A < 2 ^ 31) (hB : B < 2 ^ 31) (h1 : 1 ≤ B) : F_X7_divisor (lN A) (lN B) = lN (Nat.gcd A B) := by
  unfold F_X7_divisor
  apply Int64.toInt_inj.mp
  have hg2 : Nat.gcd A B ≤ B := Nat.le_of_dvd h1 (Nat.gcd_dvd_right A B)
  rw [eu_L _ A B (lN A) (lN B) (by rw [lN_toInt hB]; omega) (lN_toInt hA) (lN_toInt hB), lN_toInt (by omega)]
theorem lN_div {a d : Nat} (ha : a < 2 ^ 31) (h0 : 0 < d) (hd : d < 2 ^ 31) : lN a / lN d = lN (a / d) := by
  apply Int64.toInt_inj.mp
  have h1 : a / d ≤ a := Nat.div_le_self a d
  rw [Int64.toInt_div_of_ne_right (lN a) (lN d) (fun e => by
    have := congrArg Int64.toInt e
    rw [lN_toInt hd, show (-1 : Int64).toInt = -1 from rfl] at this
    omega), lN_toInt ha, lN_toInt hd, lN_toInt (by omega)]
  exact (Int.ofNat_tdiv a d).symm
theorem dl_b {g o : Nat → Int32} {m : Int32} (B : rB g o) (H : dH o) (hm : 0 ≤ m.toInt ∧ m.toInt ≤ 20) : -200 ≤ (g 2 + F_X0_delay g m).toInt ∧ (g 2 + F_X0_delay g m).toInt ≤ 500 := by
  obtain ⟨h1, h2, -⟩ := H
  have e3 := i_mul3 (x := o 16) (by omega) (by omega)
  have e5 := i_mul5 (x := m) (by omega) (by omega)
  have e4 := i_mulm4 (x := m) (by omega) (by omega)
  have key : ∀ d : Int32, -200 ≤ d.toInt → d.toInt ≤ 300 → -200 ≤ (o 17 + d).toInt ∧ (o 17 + d).toInt ≤ 500 := fun d g1 g2 => by
    rw [i_add (x := o 17 + d) rfl (by omega) (by omega)]; omega
  have e4' : (-4 * m).toInt = -(4 * m.toInt) := by
    rw [Int32.neg_mul, i_neg (x := -(4 * m)) rfl (by omega), e4]
  unfold F_X0_delay
  dsimp only
  rw [B.1, B.2.1, B.2.2.1]
  by_cases c1 : o 15 = 1
  · rw [if_pos c1]; exact key _ (by omega) (by omega)
  · rw [if_neg c1]
    by_cases c2 : o 15 = 2
    · rw [if_pos c2]
      have e6 : (3 * o 16 + 5 * m).toInt = 3 * (o 16).toInt + 5 * m.toInt := (i_add rfl (by omega) (by omega)).trans (by rw [e3, e5])
      exact key _ (by omega) (by omega)
    · rw [if_neg c2]
      by_cases c3 : o 15 = 3
      · rw [if_pos c3]; exact key _ (by omega) (by omega)
      · rw [if_neg c3]
        by_cases c4 : o 15 = 4
        · rw [if_pos c4]
          have e6 : (-4 * m - o 16).toInt = -(4 * m.toInt) - (o 16).toInt := (i_sub rfl (by omega) (by omega)).trans (by rw [e4'])
          exact key _ (by omega) (by omega)
        · rw [if_neg c4]; exact key _ (by decide) (by decide)
theorem ta_eq {g S : Nat → Int32} {a : Nat → Nat → Int32} {m x : Int32} (B : rB g S) (H : dH S) (h4 : S 36 = g 4) (hp : 0 ≤ (g 4).toInt ∧ (g 4).toInt ≤ 20) (h37 : S 37 = 999) (hm : 0 ≤ m.toInt ∧ m.toInt ≤ 20) (hx : 1 ≤ x.toInt) : x ≤ F_X0_turnsAt g m ↔ ¬ (F_X7_turnsFor S a m - S 36 < x ∨ S 37 < x) := by
  have hX := dl_b B H hm
  have hT : F_X7_turnsFor S a m = if 0 < g 2 + F_X0_delay g m then g 2 + F_X0_delay g m else 0 := by
    have h := p_turns (g := upd g 4 0) (o := S) (a := a) (m := m) ⟨B.1, B.2.1, B.2.2.1, B.2.2.2⟩ rfl
    rw [← h]
    show (if 0 < g 2 + F_X0_delay g m - 0 then g 2 + F_X0_delay g m - 0 else 0) = _
    rw [Int32.sub_zero]
  have hA : F_X0_turnsAt g m = if 0 < g 2 + F_X0_delay g m - g 4 then g 2 + F_X0_delay g m - g 4 else 0 := rfl
  rw [hT, hA, h4, h37]
  generalize g 2 + F_X0_delay g m = X at *
  have e1 : (X - g 4).toInt = X.toInt - (g 4).toInt := i_sub rfl (by omega) (by omega)
  have e0 : ((0 : Int32) - g 4).toInt = -(g 4).toInt := (i_sub rfl (by rw [show (0 : Int32).toInt = 0 from rfl]; omega) (by rw [show (0 : Int32).toInt = 0 from rfl]; omega)).trans (by rw [show (0 : Int32).toInt = 0 from rfl]; omega)
  have z0 : (0 : Int32).toInt = 0 := rfl
  have z9 : (999 : Int32).toInt = 999 := rfl
  by_cases c1 : 0 < X
  · rw [if_pos c1]
    by_cases c2 : 0 < X - g 4
    · rw [if_pos c2]
      simp only [Int32.lt_iff_toInt_lt, Int32.le_iff_toInt_le, e1, z0, z9] at *
      omega
    · rw [if_neg c2]
      simp only [Int32.lt_iff_toInt_lt, Int32.le_iff_toInt_le, e1, z0, z9] at *
      omega
  · rw [if_neg c1]
    by_cases c2 : 0 < X - g 4
    · exfalso
      simp only [Int32.lt_iff_toInt_lt, Int32.le_iff_toInt_le, e1, z0, z9] at *
      omega
    · rw [if_neg c2]
      simp only [Int32.lt_iff_toInt_lt, Int32.le_iff_toInt_le, e0, z0, z9] at *
      omega
