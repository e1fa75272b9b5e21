/-! the class's prepared cells; the class's search and the reference's have the same best -/
theorem fr_n {P : Nat → Bool} : ∀ (m k : Nat), (∀ i, k ≤ i → i < k + m → P i = false) → fr P m k = none := by
  intro m
  induction m with
  | zero => intros; rfl
  | succ m ih => intro k h; rw [fr_s, if_neg (by rw [h k (Nat.le_refl _) (by omega)]; decide)]; exact ih (k + 1) (fun i h1 h2 => h i (by omega) (by omega))
/-- open lines -/
def oP (P : SP) (rd : Int32) : Nat → Bool := fun l => pVis P (pCol P l) && !bt rd l
def oQ (P : SP) (rd c : Int32) : Nat → Bool := fun l => decide (pCol P l = c) && oP P rd l
theorem oQ_un {P : SP} {rd c : Int32} (hv : pVis P c = true) (l : Nat) : oQ P rd c l = un (pCol P) rd c l := by
  unfold oQ oP
  rw [un_d]
  by_cases e : pCol P l = c
  · rw [e, hv, Bool.true_and]
  · rw [decide_eq_false e, Bool.false_and, Bool.false_and]
theorem oQ_line {P : SP} {rd c : Int32} : s_line P rd c = fr (oQ P rd c) (pN P) 0 := by
  unfold s_line
  by_cases hv : pVis P c = true
  · rw [if_pos hv]
    exact fr_c _ _ (fun i _ _ => (oQ_un hv i).symm)
  · rw [if_neg hv]
    refine (fr_n _ _ (fun i _ _ => ?_)).symm
    unfold oQ oP
    by_cases e : pCol P i = c
    · rw [e, Bool.of_not_eq_true hv, Bool.false_and, Bool.and_false]
    · rw [decide_eq_false e, Bool.false_and]
theorem b_sh1 {m : Int32} {j : Int32} (h0 : 0 ≤ j.toInt) (h1 : j.toInt < 32) : (m >>> (j &&& 31)) &&& 1 = 0 ↔ bt m j.toNatClampNeg = false := b_bitI h0 h1
/-- the holder, the sheet, the looker in mind against the reference's -/
def rK (f : Nat → Int32) (o : Nat → Int32) (a : Nat → Nat → Int32) : Prop := f 0 = a 5 (o 30).toNatClampNeg ∧ f 1 = a 6 (o 30).toNatClampNeg ∧ f 2 = a 7 (o 30).toNatClampNeg ∧ f 3 = o 31 ∧ f 4 = o 32 ∧ f 5 = o 33 ∧ f 6 = o 34 ∧ f 7 = o 35
/-- columns, tilts and seats are small -/
def rC (o : Nat → Int32) (a : Nat → Nat → Int32) : Prop := (∀ l : Nat, (l : Int) < (o 13).toInt → 0 ≤ (a 1 l).toInt ∧ (a 1 l).toInt < 4) ∧ (-1 ≤ (o 18).toInt ∧ (o 18).toInt ≤ 1)
theorem p_shown {g : Nat → Int32} {o : Nat → Int32} {a : Nat → Nat → Int32} {c s : Int32} (R : rB g o) (hc : 0 ≤ c.toInt ∧ c.toInt < 4) (ht : -1 ≤ (o 18).toInt ∧ (o 18).toInt ≤ 1) (hs : 0 ≤ s.toInt ∧ s.toInt ≤ 2) : F_X0_isShown g c s = F_X7_isShown o a c s := by
  unfold F_X0_isShown F_X7_isShown
  dsimp only
  rw [R.1, R.2.1, R.2.2.2]
  have e1 : (c + o 18).toInt = c.toInt + (o 18).toInt := i_add rfl (by omega) (by omega)
  have e2 : (c + o 18 - s).toInt = c.toInt + (o 18).toInt - s.toInt := (i_sub (x := c + o 18 - s) rfl (by omega) (by omega)).trans (by rw [e1])
  generalize c + o 18 - s = x at *
  have hx : -4 ≤ x.toInt ∧ x.toInt ≤ 4 := by omega
  clear e1 e2
  have l0 : (0 : Int32).toInt = 0 := rfl
  have l1 : (1 : Int32).toInt = 1 := rfl
  have lm : (-1 : Int32).toInt = -1 := rfl
  have hy : (if 0 ≤ x then x else 0 - x).toInt = if 0 ≤ x.toInt then x.toInt else - x.toInt := by
    by_cases q : 0 ≤ x
    · have := i_le q
      rw [if_pos q, if_pos (by omega)]
    · have := i_nle q
      rw [if_neg q, if_neg (by omega)]
      exact (i_sub (x := 0 - x) rfl (by omega) (by omega)).trans (by omega)
  generalize (if 0 ≤ x then x else 0 - x) = y at *
  have hy0 : y = 0 ↔ x = 0 := by rw [← Int32.toInt_inj, ← Int32.toInt_inj, hy]; split <;> omega
  have hy1 : 1 < y ↔ (x < -1 ∨ 1 < x) := by rw [Int32.lt_iff_toInt_lt, Int32.lt_iff_toInt_lt, Int32.lt_iff_toInt_lt, hy]; split <;> omega
  by_cases k4 : o 15 = 4
  · rw [if_pos k4, if_pos k4]
    by_cases q : y = 0
    · rw [if_pos q, if_pos (hy0.mp q)]
    · rw [if_neg q, if_neg (fun r => q (hy0.mpr r))]
  · rw [if_neg k4, if_neg k4]
    by_cases q : 1 < y
    · have q' := hy1.mp q
      have h0 : (if x < -1 then (0 : Int32) else if 1 < x then 0 else if o 15 = 5 then (if c < o 16 - o 16 / 4 * 4 then 0 else 1) else 1) = 0 := by
        by_cases r : x < -1
        · rw [if_pos r]
        · rw [if_neg r, if_pos (q'.resolve_left r)]
      rw [h0]
      by_cases k5 : o 15 = 5
      · rw [if_pos k5, if_pos q]
      · rw [if_neg k5, if_pos q]
    · rw [if_neg (fun r => q (hy1.mpr (Or.inl r))), if_neg (fun r => q (hy1.mpr (Or.inr r)))]
      by_cases k5 : o 15 = 5
      · rw [if_pos k5, if_pos k5, if_neg q]
      · rw [if_neg k5, if_neg k5, if_neg q]
theorem l4_le {k : Nat} (h : 4 ≤ k) (hk : k < 2 ^ 31) : (4 : Int32) ≤ nI k := nI_le (a := 4) h hk
theorem l4_nle {k : Nat} (h : k < 4) : ¬ (4 : Int32) ≤ nI k := nI_ge (b := 4) h (by omega)
theorem l8_lt {k : Nat} (h : 8 < k) (hk : k < 2 ^ 31) : (8 : Int32) < nI k := nI_lt (a := 8) h hk
theorem l8_nlt {k : Nat} (h : k ≤ 8) : ¬ (8 : Int32) < nI k := nI_nlt (a := 8) h (by omega)
theorem cf_L (g : Nat → Int32) (s : Int32) : ∀ (m k : Nat), k + m = 4 → ∀ (f : Nat) (x : Int32), m < f → ∀ i, i < 32 → bt (F_X0_columnsFor_L4 g s f x (nI k)) i = (bt x i || decide (k ≤ i ∧ i < 4 ∧ ¬ F_X0_isShown g (nI i) s = 0)) := by
  intro m
  induction m with
  | zero =>
    intro k hk f x hf i hi
    match f, hf with
    | f + 1, _ =>
      rw [F_X0_columnsFor_L4, if_pos (l4_le (by omega) (by omega)), decide_eq_false (by omega), Bool.or_false]
  | succ m ih =>
    intro k hk f x hf i hi
    match f, hf with
    | f + 1, hf =>
      rw [F_X0_columnsFor_L4, if_neg (l4_nle (by omega))]
      dsimp only
      rw [nI_1]
      by_cases c : F_X0_isShown g (nI k) s = 0
      · rw [if_pos c, ih (k + 1) (by omega) f x (by omega) i hi]
        congr 1
        by_cases e : i = k
        · subst e; rw [decide_eq_false (by omega), decide_eq_false (fun q => q.2.2 c)]
        · exact decide_eq_decide.mpr ⟨fun q => ⟨by omega, q.2⟩, fun q => ⟨by omega, q.2⟩⟩
      · rw [if_neg c, ih (k + 1) (by omega) f _ (by omega) i hi, b_set (by omega) hi, Bool.or_assoc]
        congr 1
        by_cases e : i = k
        · subst e; rw [decide_eq_true rfl, Bool.true_or, decide_eq_true ⟨by omega, by omega, c⟩]
        · rw [decide_eq_false e, Bool.false_or]
          exact decide_eq_decide.mpr ⟨fun q => ⟨by omega, q.2⟩, fun q => ⟨by omega, q.2⟩⟩
theorem cf_b {g : Nat → Int32} {s : Int32} {i : Nat} (hi : i < 4) : bt (F_X0_columnsFor g s) i = decide (¬ F_X0_isShown g (nI i) s = 0) := by
  unfold F_X0_columnsFor
  have h := cf_L g s 4 0 (by omega) ((((4 : Int32).toInt - (0 : Int32).toInt).toNat) + 1) 0 (by decide) i (by omega)
  rw [show nI 0 = 0 from rfl] at h
  rw [h, b_0, Bool.false_or]
  exact decide_eq_decide.mpr ⟨fun q => q.2.2, fun q => ⟨by omega, hi, q⟩⟩
theorem lc_L {q : Nat → Nat → Int32} {n : Int32} {o : Nat → Int32} {a : Nat → Nat → Int32} (R : rS q n o a) (hC : ∀ l : Nat, (l : Int) < (o 13).toInt → 0 ≤ (a 1 l).toInt ∧ (a 1 l).toInt < 4) (p : Int32) {N : Nat} (hN : (o 13).toInt = N) : ∀ (m k : Nat), k + m = N → ∀ (f : Nat) (x : Int32), m < f → ∀ i, i < 32 → bt (F_X5_linesOfColumns_L4 q n p f x (nI k)) i = (bt x i || (decide (k ≤ i ∧ i < N) && bt p (a 1 i).toNatClampNeg)) := by
  have hn := R.2.1
  have hn2 : n.toInt = N := by rw [R.1]; exact hN
  intro m
  induction m with
  | zero =>
    intro k hk f x hf i hi
    match f, hf with
    | f + 1, _ =>
      rw [F_X5_linesOfColumns_L4, if_pos (by rw [Int32.le_iff_toInt_le, nI_toInt (by omega)]; omega), decide_eq_false (by omega), Bool.false_and, Bool.or_false]
  | succ m ih =>
    intro k hk f x hf i hi
    match f, hf with
    | f + 1, hf =>
      have hc := hC k (by omega)
      rw [F_X5_linesOfColumns_L4, if_neg (by rw [Int32.le_iff_toInt_le, nI_toInt (by omega)]; omega)]
      dsimp only
      rw [nI_1, p_column R (by rw [nI_toInt (by omega)]; omega) (by rw [nI_toInt (by omega)]; omega), nI_clamp (by omega)]
      by_cases c : bt p (a 1 k).toNatClampNeg = false
      · rw [if_pos ((b_bitI hc.1 (by omega)).mpr c), ih (k + 1) (by omega) f x (by omega) i hi]
        congr 1
        by_cases e : i = k
        · subst e; rw [c, Bool.and_false, Bool.and_false]
        · congr 1
          exact decide_eq_decide.mpr ⟨fun q => by omega, fun q => by omega⟩
      · rw [if_neg (fun r => c ((b_bitI hc.1 (by omega)).mp r)), ih (k + 1) (by omega) f _ (by omega) i hi, b_set (by omega) hi, Bool.or_assoc]
        congr 1
        by_cases e : i = k
        · subst e; rw [decide_eq_true rfl, Bool.true_or, Bool.of_not_eq_false c, decide_eq_true ⟨by omega, by omega⟩]; rfl
        · rw [decide_eq_false e, Bool.false_or]
          congr 1
          exact decide_eq_decide.mpr ⟨fun q => by omega, fun q => by omega⟩
theorem lc_b {q : Nat → Nat → Int32} {n : Int32} {o : Nat → Int32} {a : Nat → Nat → Int32} (R : rS q n o a) (hC : ∀ l : Nat, (l : Int) < (o 13).toInt → 0 ≤ (a 1 l).toInt ∧ (a 1 l).toInt < 4) (p : Int32) {N : Nat} (hN : (o 13).toInt = N) {i : Nat} (hi : i < 32) : bt (F_X5_linesOfColumns q n p) i = (decide (i < N) && bt p (a 1 i).toNatClampNeg) := by
  have h := lc_L R hC p hN N 0 (by omega) (((n.toInt - (0 : Int32).toInt).toNat) + 1) 0 (by rw [R.1, hN, show (0 : Int32).toInt = 0 from rfl]; omega) i hi
  rw [show nI 0 = 0 from rfl] at h
  unfold F_X5_linesOfColumns
  rw [h, b_0, Bool.false_or]
  congr 1
  exact decide_eq_decide.mpr ⟨fun q => q.2, fun q => ⟨by omega, q⟩⟩
theorem pl2_L {q : Nat → Nat → Int32} {n : Int32} {o : Nat → Int32} {a : Nat → Nat → Int32} (R : rS q n o a) {f : Nat → Int32} (hf1 : f 1 = a 6 (o 30).toNatClampNeg) (b0 : Nat → Nat → Int32) (c0 : Nat → Int32) {N : Nat} (hN : (o 13).toInt = N) : ∀ (m k : Nat), k + m = N → ∀ (fu : Nat) (b : Nat → Nat → Int32), m < fu → ∃ b', F_X4_prepareLines_L2 b0 c0 q n f fu b (nI k) = b' ∧ (∀ l, k ≤ l → l < N → b' 0 l = F_X7_takesOf o a (nI l) (o 30) ∧ b' 1 l = F_X7_worthOf o a (nI l)) ∧ (∀ l, l < k → b' 0 l = b 0 l ∧ b' 1 l = b 1 l) ∧ (∀ i, 2 ≤ i → b' i = b i) := by
  have hn := R.2.1
  have hn2 : n.toInt = N := by rw [R.1]; exact hN
  intro m
  induction m with
  | zero =>
    intro k hk fu b hf
    match fu, hf with
    | fu + 1, _ =>
      refine ⟨b, ?_, fun l h1 h2 => by omega, fun l _ => ⟨rfl, rfl⟩, fun i _ => rfl⟩
      rw [F_X4_prepareLines_L2, if_pos (by rw [Int32.le_iff_toInt_le, nI_toInt (by omega)]; omega)]
  | succ m ih =>
    intro k hk fu b hf
    match fu, hf with
    | fu + 1, hf =>
      have hk0 : 0 ≤ (nI k).toInt := by rw [nI_toInt (by omega)]; omega
      have hk1 : (nI k).toInt < n.toInt := by rw [nI_toInt (by omega)]; omega
      obtain ⟨b', h1, h2, h3, h4⟩ := ih (k + 1) (by omega) fu (va_up (va_up b 0 (upd (b 0) k (F_X7_takesOf o a (nI k) (o 30)))) 1 (upd (b 1) k (F_X7_worthOf o a (nI k)))) (by omega)
      refine ⟨b', ?_, fun l h5 h6 => ?_, fun l hl => ?_, fun i hi => ?_⟩
      · rw [F_X4_prepareLines_L2, if_neg (by rw [Int32.le_iff_toInt_le]; omega)]
        dsimp only
        rw [nI_1, p_cost R hk0 hk1 hf1, p_worth R hk0 hk1, q_put (k := 8) (i := k) (by omega) (by omega), q_put (k := 8) (i := k) (by omega) (by omega)]
        exact h1
      · by_cases e : l = k
        · subst e
          obtain ⟨g1, g2⟩ := h3 l (by omega)
          exact ⟨g1.trans pk_us, g2.trans pk_us⟩
        · exact h2 l (by omega) h6
      · obtain ⟨g1, g2⟩ := h3 l (by omega)
        exact ⟨g1.trans (pk_un (by omega)), g2.trans (pk_un (by omega))⟩
      · rw [h4 i hi, va_up_ne _ _ (by omega), va_up_ne _ _ (by omega)]
theorem pc_L {P : SP} (hP : sOK P) {q : Nat → Nat → Int32} {n : Int32} {o : Nat → Int32} {a : Nat → Nat → Int32} (R : rS q n o a) (hN : (o 13).toInt = (pN P : Int)) (hcol : ∀ l, l < pN P → a 1 l = pCol P l ∧ 0 ≤ (pCol P l).toInt ∧ (pCol P l).toInt < 4) {rd x4 : Int32} (hx : ∀ l, l < pN P → bt x4 l = oP P rd l) (b0 : Nat → Nat → Int32) (c0 : Nat → Int32) (g f : Nat → Int32) : ∀ (k : Nat), k ≤ pN P → ∀ (fu : Nat) (b : Nat → Nat → Int32) (cR : Nat → Int32), k < fu → (∀ c, c < 4 → b 3 c = eo (fr (oQ P rd (nI c)) (pN P - k) k)) → (∀ l, k ≤ l → l < pN P → oP P rd l = true → b 2 l = eo (fr (oQ P rd (pCol P l)) (pN P - (l + 1)) (l + 1))) → (∀ l, l < pN P → (b 1 l).toInt = pW P l) → (cR 12).toInt = s_sum (pW P) (oP P rd) (pN P) - s_sum (pW P) (oP P rd) k →
    ∃ b' c', F_X4_prepareColumns_L60b b0 c0 q n g f x4 fu b cR (nI k + (-1)) = (b', c') ∧ (∀ c, c < 4 → b' 3 c = eo (fr (oQ P rd (nI c)) (pN P) 0)) ∧ (∀ l, l < pN P → oP P rd l = true → b' 2 l = eo (fr (oQ P rd (pCol P l)) (pN P - (l + 1)) (l + 1))) ∧ (c' 12).toInt = s_sum (pW P) (oP P rd) (pN P) ∧ (b' 0 = b 0 ∧ b' 1 = b 1 ∧ ∀ i, 4 ≤ i → b' i = b i) := by
  have h8 := hP.1
  intro k
  induction k with
  | zero =>
    intro _ fu b cR hf h3 h2 h1 hc
    match fu, hf with
    | fu + 1, _ =>
      refine ⟨b, cR, ?_, h3, fun l hl ho => h2 l (by omega) hl ho, ?_, rfl, rfl, fun _ _ => rfl⟩
      · rw [F_X4_prepareColumns_L60b, if_pos (by decide)]
      · rw [hc]; show s_sum _ _ _ - 0 = _; omega
  | succ k ih =>
    intro hk fu b cR hf h3 h2 h1 hc
    match fu, hf with
    | fu + 1, hf =>
      have hsum : s_sum (pW P) (oP P rd) (k + 1) = s_sum (pW P) (oP P rd) k + (if oP P rd k = true then pW P k else 0) := rfl
      obtain ⟨hc1, hc2, hc3⟩ := hcol k (by omega)
      have hpk := p_column R (l := nI k) (by rw [nI_toInt (by omega)]; omega) (by rw [nI_toInt (by omega)]; omega)
      rw [nI_clamp (by omega), hc1] at hpk
      obtain ⟨j, hj, hcj⟩ : ∃ j, j < 4 ∧ pCol P k = nI j := ⟨(pCol P k).toInt.toNat, by omega, x_nIt hc2⟩
      have hfr : ∀ c, c < 4 → fr (oQ P rd (nI c)) (pN P - k) k = if oQ P rd (nI c) k = true then some k else fr (oQ P rd (nI c)) (pN P - (k + 1)) (k + 1) := fun c _ => by
        rw [show pN P - k = (pN P - (k + 1)) + 1 by omega, fr_s]
      by_cases ho : oP P rd k = true
      · have hbit : ¬ x4 >>> (nI k &&& 31) &&& 1 = 0 := fun r => by
          rw [b_bit (by omega), hx k (by omega), ho] at r
          cases r
        have hb1 := h1 k (by omega)
        have hw := hP.2 k (by omega)
        have u0 := s_sum_0 (g := pW P) (Q := oP P rd) k (fun l hl => (hP.2 l (by omega)).1)
        have u1 := s_sum_0 (g := pW P) (Q := oP P rd) (pN P) (fun l hl => (hP.2 l hl).1)
        have u2 := s_sum_le (g := pW P) (Q := oP P rd) (pN P) hP.2
        have u3 := s_sum_le (g := pW P) (Q := oP P rd) (k + 1) (fun l hl => hP.2 l (by omega))
        rw [if_pos ho] at hsum
        have hc' : (cR 12 + b 1 k).toInt = s_sum (pW P) (oP P rd) (pN P) - s_sum (pW P) (oP P rd) k := (i_add rfl (by omega) (by omega)).trans (by omega)
        obtain ⟨b', c', e, r3, r2, r12, rb0, rb1, rbi⟩ := ih (by omega) fu (va_up (va_up b 2 (upd (b 2) k (b 3 j))) 3 (upd (b 3) j (nI k))) (upd cR 12 (cR 12 + b 1 k)) (by omega) (fun c hc => by
            show upd (b 3) j (nI k) c = _
            rw [hfr c hc]
            by_cases e : c = j
            · subst e
              rw [pk_us, if_pos (by unfold oQ; rw [hcj, decide_eq_true rfl, ho]; rfl)]
              rfl
            · rw [pk_un e, if_neg (by
                unfold oQ
                rw [hcj, decide_eq_false (fun r => e ((nI_eq (by omega) (by omega)).mp r).symm), Bool.false_and]
                decide)]
              exact h3 c hc) (fun l hl1 hl2 hlo => by
            show upd (b 2) k (b 3 j) l = _
            by_cases e : l = k
            · subst e
              rw [pk_us, h3 j hj, hcj]
            · rw [pk_un e]
              exact h2 l (by omega) hl2 hlo) h1 hc'
        refine ⟨b', c', ?_, r3, r2, r12, rb0, rb1, fun i hi => (rbi i hi).trans ?_⟩
        · rw [pk_m1, F_X4_prepareColumns_L60b, if_neg (nI_pos (by omega))]
          dsimp only
          rw [if_neg hbit, hpk, hcj, q_at (k := 4) (i := j) (by omega) (by omega), q_put (k := 8) (i := k) (by omega) (by omega), q_put (k := 4) (i := j) (by omega) (by omega), q_at (k := 8) (i := k) (by omega) (by omega)]
          exact e
        · rw [va_up_ne _ _ (by omega), va_up_ne _ _ (by omega)]
      · have hof := Bool.of_not_eq_true ho
        have hbit : x4 >>> (nI k &&& 31) &&& 1 = 0 := by rw [b_bit (by omega), hx k (by omega)]; exact hof
        rw [if_neg ho] at hsum
        obtain ⟨b', c', e, r3, r2, r12, rb0, rb1, rbi⟩ := ih (by omega) fu b cR (by omega) (fun c hc => by
            rw [hfr c hc, if_neg (by unfold oQ; rw [hof, Bool.and_false]; decide)]
            exact h3 c hc) (fun l hl1 hl2 hlo => by
            by_cases e : l = k
            · subst e; rw [hof] at hlo; cases hlo
            · exact h2 l (by omega) hl2 hlo) h1 (by omega)
        refine ⟨b', c', ?_, r3, r2, r12, rb0, rb1, rbi⟩
        rw [pk_m1, F_X4_prepareColumns_L60b, if_neg (nI_pos (by omega))]
        dsimp only
        rw [if_pos hbit]
        exact e
theorem pc29 (q : Nat → Nat → Int32) (n x4 : Int32) (b0 : Nat → Nat → Int32) (c0 : Nat → Int32) (g f : Nat → Int32) (cR : Nat → Int32) : ∀ (m k : Nat), k + m = 4 → ∀ (fu : Nat) (b : Nat → Nat → Int32), m < fu → ∃ b', F_X4_prepareColumns_L29 b0 c0 q n g f x4 fu b cR (nI k) = F_X4_prepareColumns_L60b b0 c0 q n g f x4 ((((n - 1).toInt + 1).toNat) + 1) b' cR (n - 1) ∧ (∀ j, k ≤ j → j < 4 → b' 3 j = -9) ∧ (∀ j, j < k → b' 3 j = b 3 j) ∧ ∀ i, i ≠ 3 → b' i = b i := by
  intro m
  induction m with
  | zero =>
    intro k hk fu b hf
    match fu, hf with
    | fu + 1, _ =>
      refine ⟨b, ?_, fun j h1 h2 => by omega, fun _ _ => rfl, fun _ _ => rfl⟩
      rw [F_X4_prepareColumns_L29, if_pos (l4_le (by omega) (by omega))]
  | succ m ih =>
    intro k hk fu b hf
    match fu, hf with
    | fu + 1, hf =>
      obtain ⟨b', h1, h2, h3, h4⟩ := ih (k + 1) (by omega) fu (va_up b 3 (upd (b 3) k (-9))) (by omega)
      refine ⟨b', ?_, fun j h5 h6 => ?_, fun j hj => ?_, fun i hi => ?_⟩
      · rw [F_X4_prepareColumns_L29, if_neg (l4_nle (by omega))]
        dsimp only
        rw [nI_1, q_put (k := 4) (i := k) (by omega) (by omega)]
        exact h1
      · by_cases e : j = k
        · subst e; exact (h3 j (by omega)).trans pk_us
        · exact h2 j (by omega) h6
      · exact (h3 j (by omega)).trans (pk_un (by omega))
      · rw [h4 i hi, va_up_ne _ _ hi]
/-- what greatest does behind its loop -/
noncomputable def grT (q : Nat → Nat → Int32) (n : Int32) (f : Nat → Int32) (c : Nat → Int32) (b : Nat → Nat → Int32) : Int32 × (Nat → Nat → Int32) × (Nat → Int32) :=
  let b5 := va_up (va_up (va_up (va_up b 5 (F_X6_put (b 5) 9 0 (f 3))) 6 (F_X6_put (b 6) 9 0 (f 4))) 7 (F_X6_put (b 7) 9 0 0)) 8 (F_X6_put (b 8) 9 0 (F_X5_worthOfBits q n (f 6)))
  let r9 := F_X6_at (F_X6_put (b 8) 9 0 (F_X5_worthOfBits q n (f 6))) 9 0
  let c5 := upd (upd (upd c 11 (f 2)) 13 0) 14 r9
  if f 7 = 0 then ((F_X4_goDeeper 9 b5 c5 0).2 14, (F_X4_goDeeper 9 b5 c5 0).1, (F_X4_goDeeper 9 b5 c5 0).2) else (r9, b5, c5)
theorem gr_L (b0 : Nat → Nat → Int32) (c0 : Nat → Int32) (q : Nat → Nat → Int32) (n : Int32) (g f : Nat → Int32) (out : Int32) (o2 : (Nat → Nat → Int32) × (Nat → Int32)) : ∀ (m k : Nat), k + m = 9 → ∀ (fu : Nat) (b : Nat → Nat → Int32), m < fu → ∃ b', F_X4_greatest_L16 b0 c0 q n g f out o2 fu b (nI k) = grT q n f o2.2 b' ∧ (∀ j, k ≤ j → j < 9 → b' 4 j = if F_X0_turnsAt g (f 5 + nI j) < out then F_X0_turnsAt g (f 5 + nI j) else out) ∧ (∀ j, j < k → b' 4 j = b 4 j) ∧ ∀ i, i ≠ 4 → b' i = b i := by
  intro m
  induction m with
  | zero =>
    intro k hk fu b hf
    match fu, hf with
    | fu + 1, _ =>
      refine ⟨b, ?_, fun j h1 h2 => by omega, fun _ _ => rfl, fun _ _ => rfl⟩
      rw [F_X4_greatest_L16, if_pos (l8_lt (by omega) (by omega))]
      rfl
  | succ m ih =>
    intro k hk fu b hf
    match fu, hf with
    | fu + 1, hf =>
      obtain ⟨b', h1, h2, h3, h4⟩ := ih (k + 1) (by omega) fu (va_up b 4 (upd (b 4) k (if F_X0_turnsAt g (f 5 + nI k) < out then F_X0_turnsAt g (f 5 + nI k) else out))) (by omega)
      refine ⟨b', ?_, fun j h5 h6 => ?_, fun j hj => ?_, fun i hi => ?_⟩
      · rw [F_X4_greatest_L16, if_neg (l8_nlt (by omega))]
        dsimp only
        rw [nI_1, q_put (k := 9) (i := k) (by omega) (by omega)]
        exact h1
      · by_cases e : j = k
        · subst e; exact (h3 j (by omega)).trans pk_us
        · exact h2 j (by omega) h6
      · exact (h3 j (by omega)).trans (pk_un (by omega))
      · rw [h4 i hi, va_up_ne _ _ hi]
theorem s_most_cut {P : SP} {s : SS} (h : ∀ c, pVis P c = false) : s_most P s = (s_val P s.2.2.2, s.2.2.2, []) := by
  unfold s_most
  refine s_cols_b (fun c => ?_) 4
  unfold s_one
  rw [s_step_n (by unfold s_line; rw [if_neg (by rw [h c]; decide)])]
set_option maxHeartbeats 1000000 in
/-- greatest, told to the walk -/
theorem grt_ok {q : Nat → Nat → Int32} {n : Int32} {o : Nat → Int32} {a : Nat → Nat → Int32} {g f : Nat → Int32} (R : rS q n o a) (B : rB g o) (hg4 : g 4 = 0) (K : rK f o a) (hW : rOK o a) (C : rC o a) (hs : 0 ≤ (a 5 (o 30).toNatClampNeg).toInt ∧ (a 5 (o 30).toNatClampNeg).toInt ≤ 2) (h35 : o 35 = 0 ∨ o 35 = 1) {out : Int32} (hO : ∀ t : Nat, t ≤ 8 → ∀ x : Int32, (x ≤ F_X7_turnsFor o a (o 33 + nI t) ∧ x ≤ out) ↔ (x ≤ F_X7_turnsFor o a (o 33 + nI t) - o 36 ∧ x ≤ o 37)) (bR : Nat → Nat → Int32) (cR : Nat → Int32) : (F_X4_greatest bR cR q n g f out).1.toInt = (s_most (rP o a) (o 31, o 32, o 33, o 34)).1 ∧ cB (F_X4_greatest bR cR q n g f out).2.1 (F_X4_greatest bR cR q n g f out).2.2 (s_most (rP o a) (o 31, o 32, o 33, o 34)) := by
  have h8 := hW.1
  have hP := hW.s
  obtain ⟨k0, k1, k2, k3, k4, k5, k6, k7⟩ := K
  have hN : (o 13).toInt = (pN (rP o a) : Int) := by show _ = (((o 13).toInt.toNat : Nat) : Int); omega
  have hNs : pN (rP o a) = (o 13).toInt.toNat := rfl
  obtain ⟨b1, e1, l1, -, li⟩ := pl2_L R k1 bR cR hN (pN (rP o a)) 0 (by omega) (((n.toInt - (0 : Int32).toInt).toNat) + 1) bR (by rw [R.1, hN, show (0 : Int32).toInt = 0 from rfl]; omega)
  have e1' : F_X4_prepareLines bR cR q n f = b1 := e1
  obtain ⟨o2, e2⟩ : ∃ z, z = F_X4_prepareColumns b1 cR q n g f := ⟨_, rfl⟩
  obtain ⟨b4, e4, m4, -, mi⟩ := gr_L bR cR q n g f out o2 9 0 (by omega) ((((8 : Int32).toInt + 1 - (0 : Int32).toInt).toNat) + 1) o2.1 (by decide)
  have eG : F_X4_greatest bR cR q n g f out = grT q n f o2.2 b4 := by
    unfold F_X4_greatest
    dsimp only
    rw [e1', ← e2]
    exact e4
  have hval : (F_X5_worthOfBits q n (f 6)).toInt = s_val (rP o a) (o 34) := by rw [p_worths R, k6]; exact va_eq hW
  have hput : ∀ (u : Nat → Int32) (x : Int32), F_X6_put u 9 0 x = upd u 0 x := fun u x => q_put (k := 9) (i := 0) (by omega) (by omega)
  have hat : ∀ (u : Nat → Int32), F_X6_at u 9 0 = u 0 := fun u => q_at (k := 9) (i := 0) (by omega) (by omega)
  obtain ⟨b5, hb5⟩ : ∃ b5, b5 = va_up (va_up (va_up (va_up b4 5 (upd (b4 5) 0 (f 3))) 6 (upd (b4 6) 0 (f 4))) 7 (upd (b4 7) 0 0)) 8 (upd (b4 8) 0 (F_X5_worthOfBits q n (f 6))) := ⟨_, rfl⟩
  obtain ⟨c5, hc5⟩ : ∃ c5, c5 = upd (upd (upd o2.2 11 (f 2)) 13 0) 14 (F_X5_worthOfBits q n (f 6)) := ⟨_, rfl⟩
  have eT : grT q n f o2.2 b4 = if f 7 = 0 then ((F_X4_goDeeper 9 b5 c5 0).2 14, (F_X4_goDeeper 9 b5 c5 0).1, (F_X4_goDeeper 9 b5 c5 0).2) else (F_X5_worthOfBits q n (f 6), b5, c5) := by
    unfold grT
    dsimp only
    rw [hput, hput, hput, hput, hat, pk_us, ← hb5, ← hc5]
  rw [eG, eT]
  have hB5 : cB b5 c5 (s_val (rP o a) (o 34), o 34, []) := ⟨by rw [hc5]; exact hval, by rw [hc5]; rfl, Nat.zero_le _, fun k hk => absurd hk (Nat.not_lt_zero _)⟩
  rcases h35 with h35 | h35
  · rw [if_pos (by rw [k7]; exact h35)]
    have hvis : ∀ c, pVis (rP o a) c = !decide (F_X7_isShown o a c (a 5 (o 30).toNatClampNeg) = 0) := fun c => by
      show (!decide (o 35 = 1) && !decide (F_X7_isShown o a c (a 5 (o 30).toNatClampNeg) = 0)) = _
      rw [decide_eq_false (by rw [h35]; decide)]; rfl
    have hcol : ∀ l, l < pN (rP o a) → a 1 l = pCol (rP o a) l ∧ 0 ≤ (pCol (rP o a) l).toInt ∧ (pCol (rP o a) l).toInt < 4 := fun l hl => ⟨rfl, C.1 l (by omega)⟩
    have hx : ∀ l, l < pN (rP o a) → bt (F_X5_linesOfColumns q n (F_X0_columnsFor g (f 0)) &&& (f 6 ^^^ (-1))) l = oP (rP o a) (o 34) l := fun l hl => by
      have hc := C.1 l (by omega)
      have hcn : (a 1 l).toNatClampNeg = (a 1 l).toInt.toNat := rfl
      rw [b_and, b_xor, b_m1 l (by omega), lc_b R C.1 _ hN (by omega), decide_eq_true hl, Bool.true_and, cf_b (i := (a 1 l).toNatClampNeg) (by omega), ← x_nI hc.1, p_shown (a := a) B hc C.2 (by rw [k0]; exact hs), k0, k6, Bool.xor_true]
      unfold oP
      rw [hvis]
      congr 1
      show decide (¬ F_X7_isShown o a (a 1 l) (a 5 (o 30).toNatClampNeg) = 0) = !decide (F_X7_isShown o a (a 1 l) (a 5 (o 30).toNatClampNeg) = 0)
      exact decide_not
    have e2' : o2 = F_X4_prepareColumns_L29 b1 cR q n g f (F_X5_linesOfColumns q n (F_X0_columnsFor g (f 0)) &&& (f 6 ^^^ (-1))) ((((4 : Int32).toInt - (0 : Int32).toInt).toNat) + 1) b1 (upd cR 12 0) (nI 0) := e2
    obtain ⟨b2, e29, n3, -, ni⟩ := pc29 q n (F_X5_linesOfColumns q n (F_X0_columnsFor g (f 0)) &&& (f 6 ^^^ (-1))) b1 cR g f (upd cR 12 0) 4 0 (by omega) ((((4 : Int32).toInt - (0 : Int32).toInt).toNat) + 1) b1 (by decide)
    have hn1 : n - 1 = nI (pN (rP o a)) + (-1) := by
      have : n = nI (pN (rP o a)) := by
        apply Int32.toInt_inj.mp
        rw [R.1, hN, nI_toInt (by omega)]
      rw [this, Int32.sub_eq_add_neg]
    have hfu : pN (rP o a) < (((n - 1).toInt + 1).toNat) + 1 := by
      have : (n - 1).toInt = n.toInt - 1 := i_sub rfl (by rw [R.1, show (1 : Int32).toInt = 1 from rfl]; omega) (by rw [R.1, show (1 : Int32).toInt = 1 from rfl]; omega)
      rw [this, R.1]
      omega
    rw [hn1] at e29
    rw [hn1] at hfu
    obtain ⟨b', c', e60, r3, r2, r12, rb0, rb1, rbi⟩ := pc_L hP R hN hcol hx b1 cR g f (pN (rP o a)) (Nat.le_refl _) (((nI (pN (rP o a)) + (-1)).toInt + 1).toNat + 1) b2 (upd cR 12 0) hfu (fun c hc => by
        rw [n3 c (by omega) hc, show pN (rP o a) - pN (rP o a) = 0 by omega]
        rfl) (fun l h1 h2 => by omega) (fun l hl => by
        rw [ni 1 (by omega), (l1 l (by omega) hl).2]
        rfl) (by show (0 : Int32).toInt = _; rw [show (0 : Int32).toInt = 0 from rfl]; omega)
    have ho2 : o2 = (b', c') := e2'.trans (e29.trans e60)
    have ho21 : o2.1 = b' := by rw [ho2]
    have ho22 : o2.2 = c' := by rw [ho2]
    have y : ∀ i, i ≠ 4 → i ≠ 5 → i ≠ 6 → i ≠ 7 → i ≠ 8 → b5 i = b' i := fun i h1 h2 h3 h4 h5 => by
      rw [hb5, va_up_ne _ _ h5, va_up_ne _ _ h4, va_up_ne _ _ h3, va_up_ne _ _ h2, mi i h1, ho21]
    have hS : cS (rP o a) (o 33) b5 c5 0 [] (o 31, o 32, o 33, o 34) := by
      refine ⟨⟨?_, ?_, ⟨0, Nat.le_refl _, ?_, ?_⟩, ?_⟩, ⟨?_, ?_⟩, fun c hc => ?_, fun l hl hv hb => ?_, fun l hl => ⟨?_, ?_⟩, fun t ht x => ?_, fun k hk => absurd hk (Nat.not_lt_zero _), rfl⟩
      · rw [hb5]; exact k3
      · rw [hb5]; exact k4
      · rw [hb5]; rfl
      · show o 33 = o 33 + 0
        rw [Int32.add_zero]
      · rw [hb5]; exact hval
      · rw [hc5, ho22]; exact r12
      · rw [hc5]; exact k2
      · rw [y 3 (by omega) (by omega) (by omega) (by omega) (by omega), r3 c hc, oQ_line]
      · have ho : oP (rP o a) (o 34) l = true := by unfold oP; rw [hv, hb]; rfl
        rw [y 2 (by omega) (by omega) (by omega) (by omega) (by omega), r2 l hl ho]
        exact congrArg eo (fr_c _ _ (fun i _ _ => oQ_un hv i))
      · rw [y 0 (by omega) (by omega) (by omega) (by omega) (by omega), rb0, ni 0 (by omega)]
        exact (l1 l (by omega) hl).1
      · rw [y 1 (by omega) (by omega) (by omega) (by omega) (by omega), rb1, ni 1 (by omega), (l1 l (by omega) hl).2]
        rfl
      · have h4 : b5 4 t = if F_X0_turnsAt g (f 5 + nI t) < out then F_X0_turnsAt g (f 5 + nI t) else out := by
          rw [hb5]
          exact m4 t (by omega) (by omega)
        rw [h4, k5, p_turns (a := a) B hg4]
        have hOx := hO t ht x
        show _ ↔ (!decide (F_X7_turnsFor o a (o 33 + nI t) - o 36 < x) && !decide (o 37 < x)) = true
        rw [Bool.and_eq_true, Bool.not_eq_true', Bool.not_eq_true', decide_eq_false_iff_not, decide_eq_false_iff_not, Int32.not_lt, Int32.not_lt, ← hOx]
        generalize F_X7_turnsFor o a (o 33 + nI t) = u
        by_cases c : u < out
        · rw [if_pos c]
          have c' := i_lt c
          exact ⟨fun r => ⟨r, by have := i_le r; rw [Int32.le_iff_toInt_le]; omega⟩, fun r => r.1⟩
        · rw [if_neg c]
          have c' := i_nlt c
          exact ⟨fun r => ⟨by have := i_le r; rw [Int32.le_iff_toInt_le]; omega, r⟩, fun r => r.2⟩
    have hu := unr_le (o 34) (pN (rP o a)) (by omega)
    obtain ⟨-, hgo⟩ := go_ok hP 9 9 0 [] (o 31, o 32, o 33, o 34) (s_val (rP o a) (o 34), o 34, []) b5 c5 (by show unr (o 34) (pN (rP o a)) < 9; omega) (by show unr (o 34) (pN (rP o a)) < 9; omega) (by show unr (o 34) (pN (rP o a)) + 0 ≤ 8; omega) hS hB5
    exact ⟨hgo.1, hgo⟩
  · rw [if_neg (by rw [k7, h35]; decide), s_most_cut (fun c => by
      show (!decide (o 35 = 1) && !decide (F_X7_isShown o a c (a 5 (o 30).toNatClampNeg) = 0)) = false
      rw [decide_eq_true h35]; rfl)]
    exact ⟨hval, hB5⟩
