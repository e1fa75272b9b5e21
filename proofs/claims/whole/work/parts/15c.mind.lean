/-! a looker in mind: one read, one look away -/
theorem nl_go {q : Nat → Nat → Int32} {n : Int32} {o : Nat → Int32} {a : Nat → Nat → Int32} (R : rS q n o a) (c rd : Int32) {N : Nat} (hN : (o 13).toInt = N) : ∀ (m k : Nat), k + m = N → ∀ f : Nat, m < f → F_X5_nextLine_L2 q n c rd f (nI k) = eo (fr (un (a 1) rd c) m k) := by
  have hn := R.2.1
  have hn2 : n.toInt = N := by rw [R.1]; exact hN
  intro m
  induction m with
  | zero =>
    intro k hk f hf
    match f, hf with
    | f + 1, _ =>
      rw [F_X5_nextLine_L2, if_pos (by rw [Int32.le_iff_toInt_le, nI_toInt (by omega)]; omega)]
      rfl
  | succ m ih =>
    intro k hk f hf
    match f, hf with
    | f + 1, hf =>
      rw [F_X5_nextLine_L2, if_neg (by rw [Int32.le_iff_toInt_le, nI_toInt (by omega)]; omega)]
      have hr := ih (k + 1) (by omega) f (by omega)
      dsimp only
      rw [p_column R (by rw [nI_toInt (by omega)]; omega) (by rw [nI_toInt (by omega)]; omega), nI_clamp (by omega), nI_1, hr, fr_s, un_d]
      by_cases h1 : a 1 k = c
      · rw [if_pos h1]
        by_cases h2 : bt rd k = false
        · rw [if_pos ((b_bit (by omega)).mpr h2), if_pos (by rw [decide_eq_true h1, h2]; rfl)]
          rfl
        · rw [if_neg (fun e => h2 ((b_bit (by omega)).mp e)), if_neg (by rw [Bool.of_not_eq_false h2]; simp)]
      · rw [if_neg h1, if_neg (by rw [decide_eq_false h1]; simp)]
theorem nl_eq {q : Nat → Nat → Int32} {n : Int32} {o : Nat → Int32} {a : Nat → Nat → Int32} (R : rS q n o a) (c rd : Int32) {N : Nat} (hN : (o 13).toInt = N) : F_X5_nextLine q n c rd = eo (fr (un (a 1) rd c) N 0) := by
  unfold F_X5_nextLine
  exact nl_go R c rd hN N 0 (by omega) _ (by rw [R.1, hN, show (0 : Int32).toInt = 0 from rfl]; omega)
/-- reads, told plainly -/
theorem rd_nf (S : Nat → Int32) (a : Nat → Nat → Int32) (l : Int32) : F_X7_reads S a l = if S 32 + F_X7_takesOf S a l (S 30) ≤ a 7 (S 30).toNatClampNeg then (if F_X7_turnsFor S a (S 33) - S 36 < S 31 + F_X7_takesOf S a l (S 30) ∨ S 37 < S 31 + F_X7_takesOf S a l (S 30) then (S 31 + F_X7_takesOf S a l (S 30), S 32 + F_X7_takesOf S a l (S 30), S 33, S 34, 1) else (S 31 + F_X7_takesOf S a l (S 30), S 32 + F_X7_takesOf S a l (S 30), S 33, S 34 ||| ((1 : Int32) <<< (l &&& 31)), S 35)) else (if F_X7_turnsFor S a (S 33 + 1) - S 36 < S 31 + F_X7_takesOf S a l (S 30) ∨ S 37 < S 31 + F_X7_takesOf S a l (S 30) then (S 31 + F_X7_takesOf S a l (S 30), 0, S 33 + 1, S 34, 1) else (S 31 + F_X7_takesOf S a l (S 30), 0, S 33 + 1, S 34 ||| ((1 : Int32) <<< (l &&& 31)), S 35)) := by
  have t1 : F_X7_turnsFor (upd (upd S 31 (S 31 + F_X7_takesOf S a l (S 30))) 32 (S 32 + F_X7_takesOf S a l (S 30))) a (S 33) = F_X7_turnsFor S a (S 33) := cg_turns rfl rfl rfl
  have t2 : F_X7_turnsFor (upd (upd (upd S 31 (S 31 + F_X7_takesOf S a l (S 30))) 32 0) 33 (S 33 + 1)) a (S 33 + 1) = F_X7_turnsFor S a (S 33 + 1) := cg_turns rfl rfl rfl
  unfold F_X7_reads
  dsimp only
  rw [t1, t2]
  generalize F_X7_takesOf S a l (S 30) = v
  generalize F_X7_turnsFor S a (S 33) - S 36 = u1
  generalize F_X7_turnsFor S a (S 33 + 1) - S 36 = u2
  by_cases c1 : S 32 + v ≤ a 7 (S 30).toNatClampNeg
  · rw [if_pos c1, if_pos c1]
    by_cases c2 : u1 < S 31 + v
    · rw [if_pos c2, if_pos (Or.inl c2)]
    · rw [if_neg c2]
      by_cases c3 : S 37 < S 31 + v
      · rw [if_pos c3, if_pos (Or.inr c3)]
      · rw [if_neg c3, if_neg (fun r => r.elim c2 c3)]
  · rw [if_neg c1, if_neg c1]
    by_cases c2 : u2 < S 31 + v
    · rw [if_pos c2, if_pos (Or.inl c2)]
    · rw [if_neg c2]
      by_cases c3 : S 37 < S 31 + v
      · rw [if_pos c3, if_pos (Or.inr c3)]
      · rw [if_neg c3, if_neg (fun r => r.elim c2 c3)]
/-- the class's looker by a seat and five numbers -/
def rV (f : Nat → Int32) (a : Nat → Nat → Int32) (k : Nat) (v : Int32 × Int32 × Int32 × Int32 × Int32) : Prop := f 0 = a 5 k ∧ f 1 = a 6 k ∧ f 2 = a 7 k ∧ f 3 = v.1 ∧ f 4 = v.2.1 ∧ f 5 = v.2.2.1 ∧ f 6 = v.2.2.2.1 ∧ f 7 = v.2.2.2.2
def dM (v : Int32 × Int32 × Int32 × Int32 × Int32) : Prop := (0 ≤ v.2.2.1.toInt ∧ v.2.2.1.toInt + unr v.2.2.2.1 8 ≤ 8 + v.2.2.2.2.toInt) ∧ (∀ i : Nat, 8 ≤ i → i < 32 → bt v.2.2.2.1 i = false) ∧ (v.2.2.2.2 = 0 ∨ v.2.2.2.2 = 1) ∧ (0 ≤ v.1.toInt ∧ v.1.toInt ≤ 1200 ∧ (v.2.2.2.2 = 0 → v.1.toInt ≤ 999))
def vS (S : Nat → Int32) : Int32 × Int32 × Int32 × Int32 × Int32 := (S 31, S 32, S 33, S 34, S 35)
/-- what stays while a looker is in mind; only the holder's sooner may differ -/
def CY (q : Nat → Nat → Int32) (n : Int32) (g : Nat → Int32) (S : Nat → Int32) (a : Nat → Nat → Int32) (k : Nat) : Prop := rS q n S a ∧ rB g S ∧ DR S a ∧ (k : Int) < (S 14).toInt ∧ S 30 = nI k ∧ S 37 = 999
def CX (q : Nat → Nat → Int32) (n : Int32) (g : Nat → Int32) (S : Nat → Int32) (a : Nat → Nat → Int32) (k : Nat) : Prop := CY q n g S a k ∧ g 4 = 0 ∧ S 36 = 0
theorem CY.k4 {q : Nat → Nat → Int32} {n : Int32} {g S : Nat → Int32} {a : Nat → Nat → Int32} {k : Nat} (h : CY q n g S a k) : k < 4 ∧ (S 30).toNatClampNeg = k := by
  have h1 := h.2.2.1.2.1
  have h2 := h.2.2.2.1
  have hk : k < 4 := by omega
  exact ⟨hk, by rw [h.2.2.2.2.1, nI_clamp (by omega)]⟩
theorem ro_gen {q : Nat → Nat → Int32} {n : Int32} {g f S : Nat → Int32} {a : Nat → Nat → Int32} {k : Nat} (X : CY q n g S a k) (V : rV f a k (vS S)) (M : dM (vS S)) (hT : ∀ (j : Nat) (m : Int32), (j : Int) < (S 13).toInt → (m = S 33 ∨ m = S 33 + 1) → (S 31 + F_X7_takesOf S a (nI j) (S 30) ≤ F_X0_turnsAt g m ↔ ¬ (F_X7_turnsFor S a m - S 36 < S 31 + F_X7_takesOf S a (nI j) (S 30) ∨ S 37 < S 31 + F_X7_takesOf S a (nI j) (S 30)))) {c : Int32} (hc : 0 ≤ c.toInt ∧ c.toInt < 4) :
    (F_X2_readOn f q n g c = (-3, f) ∧ F_X7_firstIn S a c = -9) ∨ ∃ j : Nat, (j : Int) < (S 13).toInt ∧ S 35 = 0 ∧ bt (S 34) j = false ∧ F_X7_firstIn S a c = nI j ∧ (F_X2_readOn f q n g c).1 = (if (F_X7_reads S a (nI j)).2.2.2.2 = 1 then -9 else nI j) ∧ rV (F_X2_readOn f q n g c).2 a k (F_X7_reads S a (nI j)) ∧ ((F_X7_reads S a (nI j)).2.2.2.2 = 0 ∨ (F_X7_reads S a (nI j)).2.2.2.2 = 1) := by
  obtain ⟨hk4, h30⟩ := X.k4
  obtain ⟨R, B, D, hk, h30', h37⟩ := X
  obtain ⟨f0, f1, f2, f3, f4, f5, f6, f7⟩ := V
  have f3 : f 3 = S 31 := f3
  have f4 : f 4 = S 32 := f4
  have f5 : f 5 = S 33 := f5
  have f6 : f 6 = S 34 := f6
  have f7 : f 7 = S 35 := f7
  have h8 := D.1
  have hN : (S 13).toInt = ((S 13).toInt.toNat : Int) := by omega
  have hseat := (D.2.2.2.2 k hk).1
  have hcn : c.toNatClampNeg = c.toInt.toNat := rfl
  have c1 : ¬ c < 0 := by rw [Int32.lt_iff_toInt_lt, show (0 : Int32).toInt = 0 from rfl]; omega
  have c2 : ¬ (4 : Int32) ≤ c := by rw [Int32.le_iff_toInt_le, show (4 : Int32).toInt = 4 from rfl]; omega
  have hbit : ((F_X0_columnsFor g (f 0) >>> (c &&& 31)) &&& 1 = 0) ↔ F_X7_isShown S a c (a 5 k) = 0 := by
    rw [b_bitI hc.1 (by omega), cf_b (i := c.toNatClampNeg) (by omega), ← x_nI hc.1, f0, p_shown (a := a) B hc D.2.2.2.1.2.2 hseat, decide_eq_false_iff_not, Decidable.not_not]
  have hfi := fi_eq S a c hN (by omega)
  rw [h30] at hfi
  have hro : F_X2_readOn f q n g c = if F_X7_isShown S a c (a 5 k) = 0 then (-3, f) else if S 35 = 0 then (let r := F_X5_nextLine q n c (f 6); if r = -9 then (-3, f) else if f 4 + F_X5_costOf q n r (f 1) ≤ f 2 then (if f 3 + F_X5_costOf q n r (f 1) ≤ F_X0_turnsAt g (f 5) then (r, upd (upd (upd f 3 (f 3 + F_X5_costOf q n r (f 1))) 4 (f 4 + F_X5_costOf q n r (f 1))) 6 (f 6 ||| ((1 : Int32) <<< (r &&& 31)))) else (-9, upd (upd (upd f 3 (f 3 + F_X5_costOf q n r (f 1))) 4 (f 4 + F_X5_costOf q n r (f 1))) 7 1)) else (if f 3 + F_X5_costOf q n r (f 1) ≤ F_X0_turnsAt g (f 5 + 1) then (r, upd (upd (upd (upd f 3 (f 3 + F_X5_costOf q n r (f 1))) 4 0) 5 (f 5 + 1)) 6 (f 6 ||| ((1 : Int32) <<< (r &&& 31)))) else (-9, upd (upd (upd (upd f 3 (f 3 + F_X5_costOf q n r (f 1))) 4 0) 5 (f 5 + 1)) 7 1))) else (-3, f) := by
    unfold F_X2_readOn
    dsimp only
    rw [if_neg c1, if_neg c2, f7]
    by_cases d : F_X7_isShown S a c (a 5 k) = 0
    · rw [if_pos (hbit.mpr d), if_pos d]
    · rw [if_neg (fun r => d (hbit.mp r)), if_neg d]
  by_cases d : F_X7_isShown S a c (a 5 k) = 0
  · left
    exact ⟨by rw [hro, if_pos d], by rw [hfi, if_pos (Or.inr d)]⟩
  · rw [if_neg d] at hro
    have h01 : S 35 = 0 ∨ S 35 = 1 := M.2.2.1
    rcases h01 with h35 | h35
    · rw [if_pos h35] at hro
      dsimp only at hro
      rw [nl_eq R c (f 6) hN, f6] at hro
      rw [if_neg (fun r => r.elim (fun r => by rw [h35] at r; exact absurd r (by decide)) d)] at hfi
      cases hl : fr (un (a 1) (S 34) c) (S 13).toInt.toNat 0 with
      | none =>
        left
        rw [hl] at hro hfi
        exact ⟨by rw [hro]; rfl, hfi⟩
      | some j =>
        right
        rw [hl] at hro hfi
        obtain ⟨⟨-, j1⟩, j2, -⟩ := fr_some _ _ _ hl
        rw [un_d, Bool.and_eq_true, decide_eq_true_iff, Bool.not_eq_true'] at j2
        have hj : (j : Int) < (S 13).toInt := by omega
        have hcost : F_X5_costOf q n (nI j) (f 1) = F_X7_takesOf S a (nI j) (S 30) := p_cost R (by rw [nI_toInt (by omega)]; omega) (by rw [nI_toInt (by omega), R.1]; omega) (by rw [h30]; exact f1)
        rw [show eo (some j) = nI j from rfl, if_neg (eo_n9 (by omega)), hcost, f2, f3, f4, f5] at hro
        have T1 := hT j (S 33) hj (Or.inl rfl)
        have T2 := hT j (S 33 + 1) hj (Or.inr rfl)
        have hrd := rd_nf S a (nI j)
        rw [h30] at hrd
        refine ⟨j, hj, h35, j2.2, hfi, ?_⟩
        generalize F_X7_takesOf S a (nI j) (S 30) = v at *
        by_cases e1 : S 32 + v ≤ a 7 k
        · rw [if_pos e1] at hro hrd
          by_cases e2 : S 31 + v ≤ F_X0_turnsAt g (S 33)
          · rw [if_pos e2] at hro
            rw [if_neg (T1.mp e2)] at hrd
            rw [hro, hrd]
            exact ⟨by rw [if_neg (by show ¬ S 35 = 1; rw [h35]; decide)], ⟨f0, f1, f2, rfl, rfl, f5, rfl, f7⟩, Or.inl h35⟩
          · rw [if_neg e2] at hro
            rw [if_pos (Decidable.not_not.mp (fun r => e2 (T1.mpr r)))] at hrd
            rw [hro, hrd]
            exact ⟨by rw [if_pos rfl], ⟨f0, f1, f2, rfl, rfl, f5, f6, rfl⟩, Or.inr rfl⟩
        · rw [if_neg e1] at hro hrd
          by_cases e2 : S 31 + v ≤ F_X0_turnsAt g (S 33 + 1)
          · rw [if_pos e2] at hro
            rw [if_neg (T2.mp e2)] at hrd
            rw [hro, hrd]
            exact ⟨by rw [if_neg (by show ¬ S 35 = 1; rw [h35]; decide)], ⟨f0, f1, f2, rfl, rfl, rfl, rfl, f7⟩, Or.inl h35⟩
          · rw [if_neg e2] at hro
            rw [if_pos (Decidable.not_not.mp (fun r => e2 (T2.mpr r)))] at hrd
            rw [hro, hrd]
            exact ⟨by rw [if_pos rfl], ⟨f0, f1, f2, rfl, rfl, rfl, f6, rfl⟩, Or.inr rfl⟩
    · left
      have hn0 : ¬ S 35 = 0 := by rw [h35]; decide
      rw [if_neg hn0] at hro
      exact ⟨hro, by rw [hfi, if_pos (Or.inl h35)]⟩
theorem hT_of {q : Nat → Nat → Int32} {n : Int32} {g S : Nat → Int32} {a : Nat → Nat → Int32} {k : Nat} (X : CX q n g S a k) (M : dM (vS S)) : ∀ (x m : Int32), (m = S 33 ∨ m = S 33 + 1) → (x ≤ F_X0_turnsAt g m ↔ ¬ (F_X7_turnsFor S a m - S 36 < x ∨ S 37 < x)) := by
  intro x m hm
  obtain ⟨⟨R, B, D, hk, h30, h37⟩, hg4, h36⟩ := X
  have h33 : 0 ≤ (S 33).toInt ∧ (S 33).toInt ≤ 9 := by
    have h1 := M.1
    have h2 := M.2.2.1
    have h1a : 0 ≤ (S 33).toInt ∧ (S 33).toInt + unr (S 34) 8 ≤ 8 + (S 35).toInt := h1
    have h2a : S 35 = 0 ∨ S 35 = 1 := h2
    have h3 : (S 35).toInt ≤ 1 := by rcases h2a with e | e <;> (rw [e]; decide)
    omega
  have e33 := x_add1 (v := S 33) (by omega)
  have hm2 : 0 ≤ m.toInt ∧ m.toInt ≤ 50 := by rcases hm with e | e <;> (rw [e]; omega)
  have ht := bo_tn (a := a) D.2.2.2.1 hm2
  rw [p_turns (a := a) B hg4, h36, h37, Int32.sub_zero]
  generalize F_X7_turnsFor S a m = u at *
  rw [Int32.le_iff_toInt_le, Int32.lt_iff_toInt_lt, Int32.lt_iff_toInt_lt, show (999 : Int32).toInt = 999 from rfl]
  omega
theorem bo_tk {q : Nat → Nat → Int32} {n : Int32} {g S : Nat → Int32} {a : Nat → Nat → Int32} {k j : Nat} (X : CY q n g S a k) (hj : (j : Int) < (S 13).toInt) : 1 ≤ (F_X7_takesOf S a (nI j) (S 30)).toInt ∧ (F_X7_takesOf S a (nI j) (S 30)).toInt ≤ 48 := by
  obtain ⟨hk4, h30⟩ := X.k4
  obtain ⟨R, B, D, hk, h30', h37⟩ := X
  have h8 := D.1
  have hl := D.2.2.1 j hj
  rw [h30']
  exact bo_cost (by omega) hk4 hl.2.1 hl.2.2 (D.2.2.2.2 k hk).2.2.2.2.1
/-- the five numbers behind a read are as they must be -/
theorem rd_dM {q : Nat → Nat → Int32} {n : Int32} {g S : Nat → Int32} {a : Nat → Nat → Int32} {k j : Nat} (X : CY q n g S a k) (M : dM (vS S)) (h36 : 0 ≤ (S 36).toInt ∧ (S 36).toInt ≤ 1000) (hj : (j : Int) < (S 13).toInt) (h35 : S 35 = 0) (hb : bt (S 34) j = false) : dM (F_X7_reads S a (nI j)) := by
  have ht := bo_tk X hj
  obtain ⟨hk4, h30⟩ := X.k4
  obtain ⟨R, B, D, hk, h30', h37⟩ := X
  have h8 := D.1
  obtain ⟨m1, m2, m3, m4⟩ := M
  have m1 : 0 ≤ (S 33).toInt ∧ (S 33).toInt + unr (S 34) 8 ≤ 8 + (S 35).toInt := m1
  have m2 : ∀ i : Nat, 8 ≤ i → i < 32 → bt (S 34) i = false := m2
  have m4 : 0 ≤ (S 31).toInt ∧ (S 31).toInt ≤ 1200 ∧ (S 35 = 0 → (S 31).toInt ≤ 999) := m4
  have m5 := m4.2.2 h35
  have e35 : (S 35).toInt = 0 := by rw [h35]; rfl
  have e33 := x_add1 (v := S 33) (by omega)
  have hj8 : j < 8 := by omega
  have hu := unr_set hb 8 (by omega) hj8
  have hbits : ∀ i : Nat, 8 ≤ i → i < 32 → bt (S 34 ||| ((1 : Int32) <<< (nI j &&& 31))) i = false := fun i h1 h2 => by
    rw [b_set (by omega) h2, m2 i h1 h2, decide_eq_false (by omega)]; rfl
  rw [rd_nf]
  generalize F_X7_takesOf S a (nI j) (S 30) = v at *
  have ex : (S 31 + v).toInt = (S 31).toInt + v.toInt := i_add rfl (by omega) (by omega)
  have hx : ∀ u : Int32, ¬ (u < S 31 + v ∨ S 37 < S 31 + v) → (S 31 + v).toInt ≤ 999 := fun u hu => by
    have := i_nlt (fun r => hu (Or.inr r))
    rw [h37, show (999 : Int32).toInt = 999 from rfl] at this
    exact this
  split
  · split
    · refine ⟨⟨m1.1, ?_⟩, m2, Or.inr rfl, ⟨by show 0 ≤ (S 31 + v).toInt; omega, by show (S 31 + v).toInt ≤ 1200; omega, fun r => absurd (show (1 : Int32) = 0 from r) (by decide)⟩⟩
      show (S 33).toInt + unr (S 34) 8 ≤ 8 + (1 : Int32).toInt
      rw [show (1 : Int32).toInt = 1 from rfl]; omega
    · rename_i c
      refine ⟨⟨m1.1, ?_⟩, hbits, Or.inl h35, ⟨by show 0 ≤ (S 31 + v).toInt; omega, by show (S 31 + v).toInt ≤ 1200; omega, fun _ => hx _ c⟩⟩
      show (S 33).toInt + unr (S 34 ||| ((1 : Int32) <<< (nI j &&& 31))) 8 ≤ 8 + (S 35).toInt
      omega
  · split
    · refine ⟨⟨by show 0 ≤ (S 33 + 1).toInt; omega, ?_⟩, m2, Or.inr rfl, ⟨by show 0 ≤ (S 31 + v).toInt; omega, by show (S 31 + v).toInt ≤ 1200; omega, fun r => absurd (show (1 : Int32) = 0 from r) (by decide)⟩⟩
      show (S 33 + 1).toInt + unr (S 34) 8 ≤ 8 + (1 : Int32).toInt
      rw [show (1 : Int32).toInt = 1 from rfl]; omega
    · rename_i c
      refine ⟨⟨by show 0 ≤ (S 33 + 1).toInt; omega, ?_⟩, hbits, Or.inl h35, ⟨by show 0 ≤ (S 31 + v).toInt; omega, by show (S 31 + v).toInt ≤ 1200; omega, fun _ => hx _ c⟩⟩
      show (S 33 + 1).toInt + unr (S 34 ||| ((1 : Int32) <<< (nI j &&& 31))) 8 ≤ 8 + (S 35).toInt
      omega
/-- READ ON in mind -/
theorem ro_ok {q : Nat → Nat → Int32} {n : Int32} {g f S : Nat → Int32} {a : Nat → Nat → Int32} {k : Nat} (X : CX q n g S a k) (V : rV f a k (vS S)) (M : dM (vS S)) {c : Int32} (hc : 0 ≤ c.toInt ∧ c.toInt < 4) :
    (F_X2_readOn f q n g c = (-3, f) ∧ F_X7_firstIn S a c = -9) ∨ ∃ j : Nat, j < 8 ∧ F_X7_firstIn S a c = nI j ∧ (F_X2_readOn f q n g c).1 = (if (F_X7_reads S a (nI j)).2.2.2.2 = 1 then -9 else nI j) ∧ rV (F_X2_readOn f q n g c).2 a k (F_X7_reads S a (nI j)) ∧ dM (F_X7_reads S a (nI j)) := by
  rcases ro_gen X.1 V M (fun j m hj hm => hT_of X M _ m hm) hc with h | ⟨j, hj, h35, hb, h1, h2, h3, -⟩
  · exact Or.inl h
  · have h8 := X.1.2.2.1.1
    exact Or.inr ⟨j, by omega, h1, h2, h3, rd_dM X.1 M (by rw [X.2.2]; decide) hj h35 hb⟩
/-- LOOK AWAY in mind -/
theorem la_ok {q : Nat → Nat → Int32} {n : Int32} {g f S : Nat → Int32} {a : Nat → Nat → Int32} {k : Nat} (X : CX q n g S a k) (V : rV f a k (vS S)) (M : dM (vS S)) (h35 : S 35 = 0) {s : Int32} (hs : 0 ≤ s.toInt ∧ s.toInt ≤ 60) :
    rV (F_X2_lookAway f g s) a k ((F_X7_looksAway S a s).1, (F_X7_looksAway S a s).2.1, S 33, S 34, (F_X7_looksAway S a s).2.2) ∧ dM ((F_X7_looksAway S a s).1, (F_X7_looksAway S a s).2.1, S 33, S 34, (F_X7_looksAway S a s).2.2) := by
  have hT := hT_of X M (S 31 + s) (S 33) (Or.inl rfl)
  obtain ⟨⟨R, B, D, hk, h30, h37⟩, hg4, h36⟩ := X
  obtain ⟨f0, f1, f2, f3, f4, f5, f6, f7⟩ := V
  have f3 : f 3 = S 31 := f3
  have f5 : f 5 = S 33 := f5
  have f6 : f 6 = S 34 := f6
  have f7 : f 7 = S 35 := f7
  obtain ⟨m1, m2, m3, m4⟩ := M
  have m1 : 0 ≤ (S 33).toInt ∧ (S 33).toInt + unr (S 34) 8 ≤ 8 + (S 35).toInt := m1
  have m4 : 0 ≤ (S 31).toInt ∧ (S 31).toInt ≤ 1200 ∧ (S 35 = 0 → (S 31).toInt ≤ 999) := m4
  have m5 := m4.2.2 h35
  have e35 : (S 35).toInt = 0 := by rw [h35]; rfl
  have ex : (S 31 + s).toInt = (S 31).toInt + s.toInt := i_add rfl (by omega) (by omega)
  have hc : F_X2_lookAway f g s = if S 31 + s ≤ F_X7_turnsFor S a (S 33) then upd (upd f 3 (S 31 + s)) 4 0 else upd (upd (upd f 3 (S 31 + s)) 4 0) 7 1 := by
    unfold F_X2_lookAway
    dsimp only
    rw [f3, f5, p_turns (a := a) B hg4]
  have hr : F_X7_looksAway S a s = if S 31 + s ≤ F_X7_turnsFor S a (S 33) then (S 31 + s, 0, S 35) else (S 31 + s, 0, 1) := by
    unfold F_X7_looksAway
    dsimp only
    rw [cg_turns (o := S) (a := a) (S := upd (upd S 31 (S 31 + s)) 32 0) rfl rfl rfl]
  rw [p_turns (a := a) B hg4, h36, h37, Int32.sub_zero] at hT
  rw [hc, hr]
  by_cases d : S 31 + s ≤ F_X7_turnsFor S a (S 33)
  · rw [if_pos d, if_pos d]
    refine ⟨⟨f0, f1, f2, rfl, rfl, f5, f6, f7⟩, m1, m2, Or.inl h35, ⟨by show 0 ≤ (S 31 + s).toInt; omega, by show (S 31 + s).toInt ≤ 1200; omega, fun _ => ?_⟩⟩
    have := i_nlt (fun r => (hT.mp d) (Or.inr r))
    exact this
  · rw [if_neg d, if_neg d]
    refine ⟨⟨f0, f1, f2, rfl, rfl, f5, f6, rfl⟩, ⟨m1.1, ?_⟩, m2, Or.inr rfl, ⟨by show 0 ≤ (S 31 + s).toInt; omega, by show (S 31 + s).toInt ≤ 1200; omega, fun r => absurd (show (1 : Int32) = 0 from r) (by decide)⟩⟩
    show (S 33).toInt + unr (S 34) 8 ≤ 8 + (1 : Int32).toInt
    rw [show (1 : Int32).toInt = 1 from rfl]; omega
