theorem sh_L {o : Nat → Int32} {a : Nat → Nat → Int32} {s r : Int32} : ∀ (m k : Nat), k + m = 4 → ∀ (f : Nat) (x : Int32), m < f → ∃ v, F_X7_shows_L22 o a s r f x (nI k) = (v, a 0) ∧ ∀ i, i < 32 → bt v i = (bt x i || decide (k ≤ i ∧ i < 4 ∧ ¬ F_X7_isShown o a (nI i) s = 0)) := by
  intro m
  induction m with
  | zero =>
    intro k hk f x hf
    match f, hf with
    | f + 1, _ =>
      refine ⟨x, ?_, fun i hi => by rw [decide_eq_false (by omega), Bool.or_false]⟩
      rw [F_X7_shows_L22, if_pos (l4_le (by omega) (by omega))]
  | succ m ih =>
    intro k hk f x hf
    match f, hf with
    | f + 1, hf =>
      by_cases c : F_X7_isShown o a (nI k) s = 0
      · obtain ⟨v, h1, h2⟩ := ih (k + 1) (by omega) f (x ||| 0) (by omega)
        refine ⟨v, ?_, fun i hi => ?_⟩
        · rw [F_X7_shows_L22, if_neg (l4_nle (by omega))]
          dsimp only
          rw [if_pos c, nI_1]
          exact h1
        · rw [h2 i hi, b_or, b_0, Bool.or_false]
          congr 1
          by_cases e : i = k
          · subst e; rw [decide_eq_false (by omega), decide_eq_false (fun q => q.2.2 c)]
          · exact decide_eq_decide.mpr ⟨fun q => ⟨by omega, q.2⟩, fun q => ⟨by omega, q.2⟩⟩
      · obtain ⟨v, h1, h2⟩ := ih (k + 1) (by omega) f (x ||| ((1 : Int32) <<< (nI k &&& 31))) (by omega)
        refine ⟨v, ?_, fun i hi => ?_⟩
        · rw [F_X7_shows_L22, if_neg (l4_nle (by omega))]
          dsimp only
          rw [if_neg c, nI_1]
          exact h1
        · rw [h2 i hi, b_set (by omega) hi, Bool.or_assoc]
          congr 1
          by_cases e : i = k
          · subst e; rw [decide_eq_true rfl, Bool.true_or, decide_eq_true ⟨by omega, by omega, c⟩]
          · rw [decide_eq_false e, Bool.false_or]
            exact decide_eq_decide.mpr ⟨fun q => ⟨by omega, q.2⟩, fun q => ⟨by omega, q.2⟩⟩
theorem cf_all {g : Nat → Int32} {s : Int32} {i : Nat} (hi : i < 32) : bt (F_X0_columnsFor g s) i = decide (i < 4 ∧ ¬ F_X0_isShown g (nI i) s = 0) := by
  unfold F_X0_columnsFor
  have h := cf_L g s 4 0 (by omega) ((((4 : Int32).toInt - (0 : Int32).toInt).toNat) + 1) 0 (by decide) i hi
  rw [show nI 0 = 0 from rfl] at h
  rw [h, b_0, Bool.false_or]
  exact decide_eq_decide.mpr ⟨fun q => q.2, fun q => ⟨by omega, q⟩⟩
theorem ms_L {o : Nat → Int32} {a : Nat → Nat → Int32} {p : Int32} {N : Nat} (hN : (o 13).toInt = N) (h8 : N ≤ 8) : ∀ (m k : Nat), k + m = N → ∀ (f : Nat) (x : Int32), m < f → ∃ v, F_X7_missed_L18 o a p f x (nI k) = (v, a 0) ∧ ∀ i, i < 32 → bt v i = (bt x i || (decide (k ≤ i ∧ i < N ∧ ¬ F_X7_isShown o a (a 1 i) (a 5 p.toNatClampNeg) = 0) && !bt (a 11 p.toNatClampNeg) i)) := by
  intro m
  induction m with
  | zero =>
    intro k hk f x hf
    match f, hf with
    | f + 1, _ =>
      refine ⟨x, ?_, fun i hi => by rw [decide_eq_false (by omega), Bool.false_and, Bool.or_false]⟩
      rw [F_X7_missed_L18, if_pos (by rw [Int32.le_iff_toInt_le, nI_toInt (by omega)]; omega)]
  | succ m ih =>
    intro k hk f x hf
    match f, hf with
    | f + 1, hf =>
      have hstep : ∀ x', F_X7_missed_L18 o a p f x' (nI k + 1) = F_X7_missed_L18 o a p f x' (nI (k + 1)) := fun x' => by rw [nI_1]
      have e0 : F_X7_missed_L18 o a p (f + 1) x (nI k) = if F_X7_isShown o a (a 1 k) (a 5 p.toNatClampNeg) = 0 then F_X7_missed_L18 o a p f (x ||| 0) (nI (k + 1)) else if (a 11 p.toNatClampNeg >>> (nI k &&& 31)) &&& 1 = 0 then F_X7_missed_L18 o a p f (x ||| ((1 : Int32) <<< (nI k &&& 31))) (nI (k + 1)) else F_X7_missed_L18 o a p f (x ||| 0) (nI (k + 1)) := by
        rw [F_X7_missed_L18, if_neg (by rw [Int32.le_iff_toInt_le, nI_toInt (by omega)]; omega)]
        dsimp only
        rw [hstep, hstep, nI_clamp (by omega)]
      rw [e0]
      by_cases c : F_X7_isShown o a (a 1 k) (a 5 p.toNatClampNeg) = 0
      · obtain ⟨v, h1, h2⟩ := ih (k + 1) (by omega) f (x ||| 0) (by omega)
        refine ⟨v, by rw [if_pos c]; exact h1, fun i hi => ?_⟩
        rw [h2 i hi, b_or, b_0, Bool.or_false]
        congr 2
        by_cases e : i = k
        · subst e; rw [decide_eq_false (by omega), decide_eq_false (fun q => q.2.2 c)]
        · exact decide_eq_decide.mpr ⟨fun q => ⟨by omega, q.2⟩, fun q => ⟨by omega, q.2⟩⟩
      · rw [if_neg c]
        by_cases d : bt (a 11 p.toNatClampNeg) k = false
        · obtain ⟨v, h1, h2⟩ := ih (k + 1) (by omega) f (x ||| ((1 : Int32) <<< (nI k &&& 31))) (by omega)
          refine ⟨v, by rw [if_pos ((b_bit (by omega)).mpr d)]; exact h1, fun i hi => ?_⟩
          rw [h2 i hi, b_set (by omega) hi, Bool.or_assoc]
          congr 1
          by_cases e : i = k
          · subst e; rw [decide_eq_true rfl, Bool.true_or, decide_eq_true ⟨by omega, by omega, c⟩, d]; rfl
          · rw [decide_eq_false e, Bool.false_or]
            congr 1
            exact decide_eq_decide.mpr ⟨fun q => ⟨by omega, q.2⟩, fun q => ⟨by omega, q.2⟩⟩
        · obtain ⟨v, h1, h2⟩ := ih (k + 1) (by omega) f (x ||| 0) (by omega)
          refine ⟨v, by rw [if_neg (fun q => d ((b_bit (by omega)).mp q))]; exact h1, fun i hi => ?_⟩
          rw [h2 i hi, b_or, b_0, Bool.or_false]
          congr 1
          by_cases e : i = k
          · subst e; rw [Bool.of_not_eq_false d, Bool.not_true, Bool.and_false, Bool.and_false]
          · congr 1
            exact decide_eq_decide.mpr ⟨fun q => ⟨by omega, q.2⟩, fun q => ⟨by omega, q.2⟩⟩

theorem t_line {oM : Nat → Int32} {nC : Int32} {qS : Nat → Nat → Int32} {nS : Int32} {gB : Nat → Int32} {LP : Nat → Nat → Int32} {fN : Nat → Int32} {nN : Int32} {fZ : Nat → Int32} {fY : Nat → Int32} {nE : Int32} {qU : Nat → Nat → Int32} {nU : Int32} {gH : Nat → Int32} {LQ : Nat → Nat → Int32} {oO : Nat → Int32} {aO : Nat → Nat → Int32} {p0 : Int32} {p1 : Int32} (h : INV oM nC qS nS gB LP fN nN fZ fY nE qU nU gH LQ oO aO) {z : Int32 × (Nat → Int32)} (ez : z = F_X6_line oM nC qS nS fY p0 p1) {y : Int32 × (Nat → Int32)} (ey : y = F_X7_line oO aO p0 p1) : z.1 = y.1 ∧ INV oM nC qS nS gB LP fN nN fZ z.2 nE qU nU gH LQ oO (va_up aO 0 y.2) := by
  have u : z.1 = y.1 ∧ rY z.2 y.2 := by
    obtain ⟨hS, hD, hY, -⟩ := h
    have R := hS.1
    have h8 := hD.1
    rw [ez, ey]
    unfold F_X6_line F_X7_line
    dsimp only
    rw [show F_X5_has qS nS p0 = F_X7_isLine oO aO p0 from by unfold F_X5_has F_X7_isLine; rw [R.1]]
    by_cases c : F_X7_isLine oO aO p0 = 0
    · rw [if_pos c, if_pos c]; exact ref_no (M := oM) (o := oO) (w := -1) hY (by decide) (by decide)
    · rw [if_neg c, if_neg c]
      have hp := sem_X7_isLine_n rfl c
      have hp1 : p0.toInt < nS.toInt := by rw [R.1]; exact hp.2
      rw [p_column R hp.1 (by omega), p_kind R hp.1 (by omega), p_figure R hp.1 (by omega), p_seconds R hp.1 (by omega), p_worth R hp.1 hp1, p_ahead R hp.1 hp1]
      by_cases c0 : p1 = 0
      · rw [if_pos c0, if_pos c0]; exact ⟨rfl, hY⟩
      · rw [if_neg c0, if_neg c0]
        by_cases c1 : p1 = 1
        · rw [if_pos c1, if_pos c1]; exact ⟨rfl, hY⟩
        · rw [if_neg c1, if_neg c1]
          by_cases c2 : p1 = 2
          · rw [if_pos c2, if_pos c2]; exact ⟨rfl, hY⟩
          · rw [if_neg c2, if_neg c2]
            by_cases c3 : p1 = 3
            · rw [if_pos c3, if_pos c3]; exact ⟨rfl, hY⟩
            · rw [if_neg c3, if_neg c3]
              by_cases c4 : p1 = 4
              · rw [if_pos c4, if_pos c4]; exact ⟨rfl, hY⟩
              · rw [if_neg c4, if_neg c4]
                by_cases c5 : p1 = 5
                · rw [if_pos c5, if_pos c5]; exact ⟨rfl, hY⟩
                · rw [if_neg c5, if_neg c5]; exact ref_no (M := oM) (o := oO) (w := -2) hY (by decide) (by decide)
  exact ⟨u.1, h.cg u.2 rfl rfl rfl rfl rfl rfl rfl rfl rfl rfl rfl rfl rfl rfl rfl rfl rfl rfl rfl rfl rfl rfl rfl rfl rfl rfl⟩

theorem t_holder {oM : Nat → Int32} {nC : Int32} {qS : Nat → Nat → Int32} {nS : Int32} {gB : Nat → Int32} {LP : Nat → Nat → Int32} {fN : Nat → Int32} {nN : Int32} {fZ : Nat → Int32} {fY : Nat → Int32} {nE : Int32} {qU : Nat → Nat → Int32} {nU : Int32} {gH : Nat → Int32} {LQ : Nat → Nat → Int32} {oO : Nat → Int32} {aO : Nat → Nat → Int32} {p0 : Int32} (h : INV oM nC qS nS gB LP fN nN fZ fY nE qU nU gH LQ oO aO) {z : Int32 × (Nat → Int32)} (ez : z = F_X6_holder oM nC gB fY p0) {y : Int32 × (Nat → Int32)} (ey : y = F_X7_holder oO aO p0) : z.1 = y.1 ∧ INV oM nC qS nS gB LP fN nN fZ z.2 nE qU nU gH LQ oO (va_up aO 0 y.2) := by
  have u : z.1 = y.1 ∧ rY z.2 y.2 := by
    obtain ⟨hS, hD, hY, -⟩ := h
    obtain ⟨b0, b1, b2, b3⟩ := hS.2.1.1
    rw [ez, ey]
    unfold F_X6_holder F_X7_holder
    dsimp only
    rw [b0, b1, b2, b3, Int32.add_comm (oO 18) 1]
    by_cases c0 : p0 = 0
    · rw [if_pos c0, if_pos c0]; exact ⟨rfl, hY⟩
    · rw [if_neg c0, if_neg c0]
      by_cases c1 : p0 = 1
      · rw [if_pos c1, if_pos c1]; exact ⟨rfl, hY⟩
      · rw [if_neg c1, if_neg c1]
        by_cases c2 : p0 = 2
        · rw [if_pos c2, if_pos c2]; exact ⟨rfl, hY⟩
        · rw [if_neg c2, if_neg c2]
          by_cases c3 : p0 = 3
          · rw [if_pos c3, if_pos c3]; exact ⟨rfl, hY⟩
          · rw [if_neg c3, if_neg c3]; exact ref_no (M := oM) (o := oO) (w := -2) hY (by decide) (by decide)
  exact ⟨u.1, h.cg u.2 rfl rfl rfl rfl rfl rfl rfl rfl rfl rfl rfl rfl rfl rfl rfl rfl rfl rfl rfl rfl rfl rfl rfl rfl rfl rfl⟩

theorem t_looker {oM : Nat → Int32} {nC : Int32} {qS : Nat → Nat → Int32} {nS : Int32} {gB : Nat → Int32} {LP : Nat → Nat → Int32} {fN : Nat → Int32} {nN : Int32} {fZ : Nat → Int32} {fY : Nat → Int32} {nE : Int32} {qU : Nat → Nat → Int32} {nU : Int32} {gH : Nat → Int32} {LQ : Nat → Nat → Int32} {oO : Nat → Int32} {aO : Nat → Nat → Int32} {wW : Nat → Nat} {p0 : Int32} {p1 : Int32} (h : INV oM nC qS nS gB LP fN nN fZ fY nE qU nU gH LQ oO aO) {z : Int32 × (Nat → Int32)} (ez : z = F_X6_looker oM nC wW qS nS gB fY LP p0 p1) {y : Int32 × (Nat → Int32)} (ey : y = F_X7_looker oO aO p0 p1) : z.1 = y.1 ∧ INV oM nC qS nS gB LP fN nN fZ z.2 nE qU nU gH LQ oO (va_up aO 0 y.2) := by
  have u : z.1 = y.1 ∧ rY z.2 y.2 := by
    obtain ⟨hS, hD, hY, -⟩ := h
    rw [ez, ey]
    unfold F_X6_looker F_X7_looker
    dsimp only
    rcases wk_lk (p := p0) (a := aO) hS.2.2.1 hD.2.1 with ⟨w1, w2, k, hk, hk4, hk1, hkc⟩ | ⟨w1, w2⟩
    · rw [if_pos w1, if_neg w2, hkc]
      obtain ⟨l0, l1, l2, l3, l4, l5, l6, l7⟩ := hS.2.2.2 k hk1
      have h12 : (if LP k 7 = 0 then ((0 : Int32), fY) else (1, fY)) = (aO 12 k, fY) := by
        rw [l7]
        rcases (hD.2.2.2.2 k hk1).2.2.2.1 with e | e
        · rw [if_pos e, e]
        · rw [if_neg (by rw [e]; decide), e]
      rw [h12, l0, l1, l2, l3, l4, l5, l6, p_turns (a := aO) hS.2.1.1 hS.2.1.2, p_worths hS.1]
      by_cases d0 : p1 = 0
      · rw [if_pos d0, if_pos d0]; exact ⟨rfl, hY⟩
      · rw [if_neg d0, if_neg d0]
        by_cases d1 : p1 = 1
        · rw [if_pos d1, if_pos d1]; exact ⟨rfl, hY⟩
        · rw [if_neg d1, if_neg d1]
          by_cases d2 : p1 = 2
          · rw [if_pos d2, if_pos d2]; exact ⟨rfl, hY⟩
          · rw [if_neg d2, if_neg d2]
            by_cases d3 : p1 = 3
            · rw [if_pos d3, if_pos d3]; exact ⟨rfl, hY⟩
            · rw [if_neg d3, if_neg d3]
              by_cases d4 : p1 = 4
              · rw [if_pos d4, if_pos d4]; exact ⟨rfl, hY⟩
              · rw [if_neg d4, if_neg d4]
                by_cases d5 : p1 = 5
                · rw [if_pos d5, if_pos d5]; exact ⟨rfl, hY⟩
                · rw [if_neg d5, if_neg d5]
                  by_cases d6 : p1 = 6
                  · rw [if_pos d6, if_pos d6]; exact ⟨rfl, hY⟩
                  · rw [if_neg d6, if_neg d6]
                    by_cases d7 : p1 = 7
                    · rw [if_pos d7, if_pos d7]; exact ⟨rfl, hY⟩
                    · rw [if_neg d7, if_neg d7]
                      by_cases d8 : p1 = 8
                      · rw [if_pos d8, if_pos d8]; exact ⟨rfl, hY⟩
                      · rw [if_neg d8, if_neg d8]
                        by_cases d9 : p1 = 9
                        · rw [if_pos d9, if_pos d9]; exact ⟨rfl, hY⟩
                        · rw [if_neg d9, if_neg d9]
                          exact ref_no (M := oM) (o := oO) (w := -2) hY (by decide) (by decide)
    · rw [if_neg w1, if_pos w2]; exact ref_no (M := oM) (o := oO) (w := -1) hY (by decide) (by decide)
  exact ⟨u.1, h.cg u.2 rfl rfl rfl rfl rfl rfl rfl rfl rfl rfl rfl rfl rfl rfl rfl rfl rfl rfl rfl rfl rfl rfl rfl rfl rfl rfl⟩

theorem t_takes {oM : Nat → Int32} {nC : Int32} {qS : Nat → Nat → Int32} {nS : Int32} {gB : Nat → Int32} {LP : Nat → Nat → Int32} {fN : Nat → Int32} {nN : Int32} {fZ : Nat → Int32} {fY : Nat → Int32} {nE : Int32} {qU : Nat → Nat → Int32} {nU : Int32} {gH : Nat → Int32} {LQ : Nat → Nat → Int32} {oO : Nat → Int32} {aO : Nat → Nat → Int32} {wW : Nat → Nat} {p0 : Int32} {p1 : Int32} (h : INV oM nC qS nS gB LP fN nN fZ fY nE qU nU gH LQ oO aO) {z : Int32 × (Nat → Int32)} (ez : z = F_X6_takes oM nC wW qS nS fY LP p0 p1) {y : Int32 × (Nat → Int32)} (ey : y = F_X7_takes oO aO p0 p1) : z.1 = y.1 ∧ INV oM nC qS nS gB LP fN nN fZ z.2 nE qU nU gH LQ oO (va_up aO 0 y.2) := by
  have u : z.1 = y.1 ∧ rY z.2 y.2 := by
    obtain ⟨hS, hD, hY, -⟩ := h
    have R := hS.1
    rw [ez, ey]
    unfold F_X6_takes F_X7_takes
    dsimp only
    rw [show F_X5_has qS nS p0 = F_X7_isLine oO aO p0 from by unfold F_X5_has F_X7_isLine; rw [R.1]]
    rcases wk_lk (p := p1) (a := aO) hS.2.2.1 hD.2.1 with ⟨w1, w2, k, hk, hk4, hk1, hkc⟩ | ⟨w1, w2⟩
    · rw [if_pos w1, if_neg w2, hkc]
      by_cases c : F_X7_isLine oO aO p0 = 0
      · rw [if_pos c, if_pos c]; exact ref_no (M := oM) (o := oO) (w := -1) hY (by decide) (by decide)
      · rw [if_neg c, if_neg c]
        have hp := sem_X7_isLine_n rfl c
        have hp1 : p0.toInt < nS.toInt := by rw [R.1]; exact hp.2
        rw [p_cost R hp.1 hp1 (k := p1) (by rw [hkc]; exact (hS.2.2.2 k hk1).2.1)]
        exact ⟨rfl, hY⟩
    · rw [if_neg w1]
      by_cases c : F_X7_isLine oO aO p0 = 0
      · rw [if_pos c, if_pos c]; exact ref_no (M := oM) (o := oO) (w := -1) hY (by decide) (by decide)
      · rw [if_neg c, if_neg c, if_pos w2]; exact ref_no (M := oM) (o := oO) (w := -1) hY (by decide) (by decide)
  exact ⟨u.1, h.cg u.2 rfl rfl rfl rfl rfl rfl rfl rfl rfl rfl rfl rfl rfl rfl rfl rfl rfl rfl rfl rfl rfl rfl rfl rfl rfl rfl⟩

theorem t_shows {oM : Nat → Int32} {nC : Int32} {qS : Nat → Nat → Int32} {nS : Int32} {gB : Nat → Int32} {LP : Nat → Nat → Int32} {fN : Nat → Int32} {nN : Int32} {fZ : Nat → Int32} {fY : Nat → Int32} {nE : Int32} {qU : Nat → Nat → Int32} {nU : Int32} {gH : Nat → Int32} {LQ : Nat → Nat → Int32} {oO : Nat → Int32} {aO : Nat → Nat → Int32} {p0 : Int32} (h : INV oM nC qS nS gB LP fN nN fZ fY nE qU nU gH LQ oO aO) {z : Int32 × (Nat → Int32)} (ez : z = F_X6_shows oM nC gB fY p0) {y : Int32 × (Nat → Int32)} (ey : y = F_X7_shows oO aO p0) : z.1 = y.1 ∧ INV oM nC qS nS gB LP fN nN fZ z.2 nE qU nU gH LQ oO (va_up aO 0 y.2) := by
  have u : z.1 = y.1 ∧ rY z.2 y.2 := by
    obtain ⟨hS, hD, hY, -⟩ := h
    rw [ez, ey]
    unfold F_X6_shows F_X7_shows
    dsimp only
    rw [bd_eq]
    by_cases c : F_X6_outside p0 0 2 = 0
    · rw [if_pos c, if_pos c]
      have hs := bd_in c
      rw [show (0 : Int32).toInt = 0 from rfl, show (2 : Int32).toInt = 2 from rfl] at hs
      obtain ⟨v, h1, h2⟩ := sh_L (o := oO) (a := aO) (s := p0) (r := F_X6_outside p0 0 2) 4 0 (by omega) ((((4 : Int32).toInt - (0 : Int32).toInt).toNat) + 1) 0 (by decide)
      rw [show nI 0 = (0 : Int32) from rfl] at h1
      rw [h1]
      refine ⟨?_, hY⟩
      show F_X0_columnsFor gB p0 = v
      apply b_ext
      intro i hi
      rw [h2 i hi, cf_all hi, b_0, Bool.false_or]
      refine decide_eq_decide.mpr ⟨fun q => ⟨by omega, q.1, ?_⟩, fun q => ⟨q.2.1, ?_⟩⟩
      · rw [← p_shown (a := aO) hS.2.1.1 ⟨by rw [nI_toInt (by omega)]; omega, by rw [nI_toInt (by omega)]; omega⟩ hD.2.2.2.1.2.2 hs]; exact q.2
      · rw [p_shown (a := aO) hS.2.1.1 ⟨by rw [nI_toInt (by omega)]; omega, by rw [nI_toInt (by omega)]; omega⟩ hD.2.2.2.1.2.2 hs]; exact q.2.2
    · rw [if_neg c, if_neg c]; exact ref_no (M := oM) (o := oO) (w := F_X6_outside p0 0 2) hY bd_rng.1 bd_rng.2
  exact ⟨u.1, h.cg u.2 rfl rfl rfl rfl rfl rfl rfl rfl rfl rfl rfl rfl rfl rfl rfl rfl rfl rfl rfl rfl rfl rfl rfl rfl rfl rfl⟩

theorem t_missed {oM : Nat → Int32} {nC : Int32} {qS : Nat → Nat → Int32} {nS : Int32} {gB : Nat → Int32} {LP : Nat → Nat → Int32} {fN : Nat → Int32} {nN : Int32} {fZ : Nat → Int32} {fY : Nat → Int32} {nE : Int32} {qU : Nat → Nat → Int32} {nU : Int32} {gH : Nat → Int32} {LQ : Nat → Nat → Int32} {oO : Nat → Int32} {aO : Nat → Nat → Int32} {wW : Nat → Nat} {p0 : Int32} (h : INV oM nC qS nS gB LP fN nN fZ fY nE qU nU gH LQ oO aO) {z : Int32 × (Nat → Int32)} (ez : z = F_X6_missed oM nC wW qS nS gB fY LP p0) {y : Int32 × (Nat → Int32)} (ey : y = F_X7_missed oO aO p0) : z.1 = y.1 ∧ INV oM nC qS nS gB LP fN nN fZ z.2 nE qU nU gH LQ oO (va_up aO 0 y.2) := by
  have u : z.1 = y.1 ∧ rY z.2 y.2 := by
    obtain ⟨hS, hD, hY, -⟩ := h
    have h8 := hD.1
    rw [ez, ey]
    unfold F_X6_missed F_X7_missed
    dsimp only
    rcases wk_lk (p := p0) (a := aO) hS.2.2.1 hD.2.1 with ⟨w1, w2, k, hk, hk4, hk1, hkc⟩ | ⟨w1, w2⟩
    · rw [if_pos w1, if_neg w2, hkc]
      obtain ⟨l0, l1, l2, l3, l4, l5, l6, l7⟩ := hS.2.2.2 k hk1
      obtain ⟨v, h1, h2⟩ := ms_L (o := oO) (a := aO) (p := p0) (N := (oO 13).toInt.toNat) (by omega) (by omega) (oO 13).toInt.toNat 0 (by omega) ((((oO 13).toInt - (0 : Int32).toInt).toNat) + 1) 0 (by rw [show (0 : Int32).toInt = 0 from rfl]; omega)
      rw [show nI 0 = (0 : Int32) from rfl] at h1
      rw [h1]
      refine ⟨?_, hY⟩
      show F_X5_linesOfColumns qS nS (F_X0_columnsFor gB (LP k 0)) &&& (LP k 6 ^^^ -1) = v
      apply b_ext
      intro i hi
      rw [h2 i hi, b_and, b_xor, b_m1 i hi, b_0, Bool.false_or, lc_b hS.1 (fun l hl => (hD.2.2.1 l hl).1) _ (N := (oO 13).toInt.toNat) (by omega) hi, l6, hkc, Bool.xor_true]
      congr 1
      by_cases e : i < (oO 13).toInt.toNat
      · have hc := (hD.2.2.1 i (by omega)).1
        have hcn : (aO 1 i).toNatClampNeg = (aO 1 i).toInt.toNat := rfl
        rw [decide_eq_true e, Bool.true_and, cf_b (i := (aO 1 i).toNatClampNeg) (by omega), ← x_nI hc.1, l0, p_shown (a := aO) hS.2.1.1 hc hD.2.2.2.1.2.2 (hD.2.2.2.2 k hk1).1]
        exact decide_eq_decide.mpr ⟨fun q => ⟨by omega, e, q⟩, fun q => q.2.2⟩
      · rw [decide_eq_false e, Bool.false_and, decide_eq_false (fun q => e q.2.1)]
    · rw [if_neg w1, if_pos w2]; exact ref_no (M := oM) (o := oO) (w := -1) hY (by decide) (by decide)
  exact ⟨u.1, h.cg u.2 rfl rfl rfl rfl rfl rfl rfl rfl rfl rfl rfl rfl rfl rfl rfl rfl rfl rfl rfl rfl rfl rfl rfl rfl rfl rfl⟩

theorem t_left {oM : Nat → Int32} {nC : Int32} {qS : Nat → Nat → Int32} {nS : Int32} {gB : Nat → Int32} {LP : Nat → Nat → Int32} {fN : Nat → Int32} {nN : Int32} {fZ : Nat → Int32} {fY : Nat → Int32} {nE : Int32} {qU : Nat → Nat → Int32} {nU : Int32} {gH : Nat → Int32} {LQ : Nat → Nat → Int32} {oO : Nat → Int32} {aO : Nat → Nat → Int32} {wW : Nat → Nat} {p0 : Int32} (h : INV oM nC qS nS gB LP fN nN fZ fY nE qU nU gH LQ oO aO) {z : Int32 × (Nat → Int32)} (ez : z = F_X6_left oM nC wW qS nS fY LP p0) {y : Int32 × (Nat → Int32)} (ey : y = F_X7_left oO aO p0) : z.1 = y.1 ∧ INV oM nC qS nS gB LP fN nN fZ z.2 nE qU nU gH LQ oO (va_up aO 0 y.2) := by
  have u : z.1 = y.1 ∧ rY z.2 y.2 := by
    obtain ⟨hS, hD, hY, -⟩ := h
    rw [ez, ey]
    unfold F_X6_left F_X7_left
    dsimp only
    rcases wk_lk (p := p0) (a := aO) hS.2.2.1 hD.2.1 with ⟨w1, w2, k, hk, hk4, hk1, hkc⟩ | ⟨w1, w2⟩
    · rw [if_pos w1, if_neg w2, hkc, (hS.2.2.2 k hk1).2.2.2.2.2.2.1, p_worths hS.1]
      exact ⟨rfl, hY⟩
    · rw [if_neg w1, if_pos w2]; exact ref_no (M := oM) (o := oO) (w := -1) hY (by decide) (by decide)
  exact ⟨u.1, h.cg u.2 rfl rfl rfl rfl rfl rfl rfl rfl rfl rfl rfl rfl rfl rfl rfl rfl rfl rfl rfl rfl rfl rfl rfl rfl rfl rfl⟩

theorem t_tilt {oM : Nat → Int32} {nC : Int32} {qS : Nat → Nat → Int32} {nS : Int32} {gB : Nat → Int32} {LP : Nat → Nat → Int32} {fN : Nat → Int32} {nN : Int32} {fZ : Nat → Int32} {fY : Nat → Int32} {nE : Int32} {qU : Nat → Nat → Int32} {nU : Int32} {gH : Nat → Int32} {LQ : Nat → Nat → Int32} {oO : Nat → Int32} {aO : Nat → Nat → Int32} {p0 : Int32} (h : INV oM nC qS nS gB LP fN nN fZ fY nE qU nU gH LQ oO aO) {z : Int32 × (Nat → Int32) × (Nat → Int32)} (ez : z = F_X6_tilt oM nC gB fY p0) {y : Int32 × Int32 × (Nat → Int32)} (ey : y = F_X7_tilt oO aO p0) : z.1 = y.1 ∧ INV oM nC qS nS z.2.1 LP fN nN fZ z.2.2 nE qU nU gH LQ (upd oO 18 y.2.1) (va_up aO 0 y.2.2) := by
  by_cases c : F_X6_outside p0 (-1) 1 = 0
  · have e1 : z = (gB 3 + 1, upd gB 3 p0, fY) := by rw [ez]; unfold F_X6_tilt; dsimp only; rw [if_pos c]
    have e2 : y = (1 + oO 18, p0, aO 0) := by rw [ey]; unfold F_X7_tilt; dsimp only; rw [bd_eq, if_pos c]
    clear ez ey
    subst e1 e2
    obtain ⟨hS, hD, hY, hr⟩ := h
    have hb := bd_in c
    rw [show (-1 : Int32).toInt = -1 from rfl, show (1 : Int32).toInt = 1 from rfl] at hb
    exact ⟨by show gB 3 + 1 = 1 + oO 18; rw [hS.2.1.1.2.2.2, Int32.add_comm], ⟨hS.1, ⟨⟨hS.2.1.1.1, hS.2.1.1.2.1, hS.2.1.1.2.2.1, rfl⟩, hS.2.1.2⟩, hS.2.2⟩, ⟨hD.1, hD.2.1, hD.2.2.1, ⟨hD.2.2.2.1.1, hD.2.2.2.1.2.1, hb⟩, hD.2.2.2.2⟩, hY, hr⟩
  · have e1 : z = ((F_X6_refuse oM fY (F_X6_outside p0 (-1) 1)).1, gB, (F_X6_refuse oM fY (F_X6_outside p0 (-1) 1)).2) := by rw [ez]; unfold F_X6_tilt; dsimp only; rw [if_neg c]
    have e2 : y = ((F_X7_no oO aO (F_X6_outside p0 (-1) 1)).1, oO 18, (F_X7_no oO aO (F_X6_outside p0 (-1) 1)).2) := by rw [ey]; unfold F_X7_tilt; dsimp only; rw [bd_eq, if_neg c]
    have u := ref_no (M := oM) (o := oO) (a := aO) (w := F_X6_outside p0 (-1) 1) h.2.2.1 bd_rng.1 bd_rng.2
    clear ez ey
    subst e1 e2
    exact ⟨u.1, h.cg u.2 rfl rfl rfl rfl rfl rfl rfl rfl rfl rfl rfl rfl rfl rfl rfl rfl rfl rfl rfl rfl rfl rfl rfl rfl rfl rfl⟩

theorem t_base {oM : Nat → Int32} {nC : Int32} {qS : Nat → Nat → Int32} {nS : Int32} {gB : Nat → Int32} {LP : Nat → Nat → Int32} {fN : Nat → Int32} {nN : Int32} {fZ : Nat → Int32} {fY : Nat → Int32} {nE : Int32} {qU : Nat → Nat → Int32} {nU : Int32} {gH : Nat → Int32} {LQ : Nat → Nat → Int32} {oO : Nat → Int32} {aO : Nat → Nat → Int32} {p0 : Int32} (h : INV oM nC qS nS gB LP fN nN fZ fY nE qU nU gH LQ oO aO) {z : Int32 × (Nat → Int32) × (Nat → Int32)} (ez : z = F_X6_base oM nC gB fY p0) {y : Int32 × Int32 × (Nat → Int32)} (ey : y = F_X7_base oO aO p0) : z.1 = y.1 ∧ INV oM nC qS nS z.2.1 LP fN nN fZ z.2.2 nE qU nU gH LQ (upd oO 17 y.2.1) (va_up aO 0 y.2.2) := by
  by_cases c : F_X6_outside p0 10 99 = 0
  · have e1 : z = (gB 2, upd gB 2 p0, fY) := by rw [ez]; unfold F_X6_base; dsimp only; rw [if_pos c]
    have e2 : y = (oO 17, p0, aO 0) := by rw [ey]; unfold F_X7_base; dsimp only; rw [bd_eq, if_pos c]
    clear ez ey
    subst e1 e2
    obtain ⟨hS, hD, hY, hr⟩ := h
    have hb := bd_in c
    rw [show (10 : Int32).toInt = 10 from rfl, show (99 : Int32).toInt = 99 from rfl] at hb
    exact ⟨hS.2.1.1.2.2.1, ⟨hS.1, ⟨⟨hS.2.1.1.1, hS.2.1.1.2.1, rfl, hS.2.1.1.2.2.2⟩, hS.2.1.2⟩, hS.2.2⟩, ⟨hD.1, hD.2.1, hD.2.2.1, ⟨hD.2.2.2.1.1, hb, hD.2.2.2.1.2.2⟩, hD.2.2.2.2⟩, hY, hr⟩
  · have e1 : z = ((F_X6_refuse oM fY (F_X6_outside p0 10 99)).1, gB, (F_X6_refuse oM fY (F_X6_outside p0 10 99)).2) := by rw [ez]; unfold F_X6_base; dsimp only; rw [if_neg c]
    have e2 : y = ((F_X7_no oO aO (F_X6_outside p0 10 99)).1, oO 17, (F_X7_no oO aO (F_X6_outside p0 10 99)).2) := by rw [ey]; unfold F_X7_base; dsimp only; rw [bd_eq, if_neg c]
    have u := ref_no (M := oM) (o := oO) (a := aO) (w := F_X6_outside p0 10 99) h.2.2.1 bd_rng.1 bd_rng.2
    clear ez ey
    subst e1 e2
    exact ⟨u.1, h.cg u.2 rfl rfl rfl rfl rfl rfl rfl rfl rfl rfl rfl rfl rfl rfl rfl rfl rfl rfl rfl rfl rfl rfl rfl rfl rfl rfl⟩

theorem t_sit {oM : Nat → Int32} {nC : Int32} {qS : Nat → Nat → Int32} {nS : Int32} {gB : Nat → Int32} {LP : Nat → Nat → Int32} {fN : Nat → Int32} {nN : Int32} {fZ : Nat → Int32} {fY : Nat → Int32} {nE : Int32} {qU : Nat → Nat → Int32} {nU : Int32} {gH : Nat → Int32} {LQ : Nat → Nat → Int32} {oO : Nat → Int32} {aO : Nat → Nat → Int32} {wW : Nat → Nat} {p0 : Int32} {p1 : Int32} (h : INV oM nC qS nS gB LP fN nN fZ fY nE qU nU gH LQ oO aO) {z : Int32 × (Nat → Int32) × (Nat → Nat → Int32)} (ez : z = F_X6_sit oM nC wW fY LP p0 p1) {y : Int32 × (Nat → Int32) × (Nat → Int32)} (ey : y = F_X7_sit oO aO p0 p1) : z.1 = y.1 ∧ INV oM nC qS nS gB z.2.2 fN nN fZ z.2.1 nE qU nU gH LQ oO (va_up (va_up aO 0 y.2.1) 5 y.2.2) := by
  rcases wk_lk (p := p0) (a := aO) h.1.2.2.1 h.2.1.2.1 with ⟨w1, w2, k, hk, hk4, hk1, hkc⟩ | ⟨w1, w2⟩
  · by_cases c : F_X6_outside p1 0 2 = 0
    · have e1 : z = (LP k 0, fY, va_up LP k (upd (LP k) 0 p1)) := by rw [ez]; unfold F_X6_sit; dsimp only; rw [if_pos w1, if_pos c, hkc]
      have e2 : y = (aO 5 k, aO 0, upd (aO 5) k p1) := by rw [ey]; unfold F_X7_sit; dsimp only; rw [bd_eq, if_neg w2, if_pos c, hkc]
      clear ez ey
      subst e1 e2
      obtain ⟨hS, hD, hY, hN, hR, h36, hK, hz, hzq⟩ := h
      have hb := bd_in c
      rw [show (0 : Int32).toInt = 0 from rfl, show (2 : Int32).toInt = 2 from rfl] at hb
      obtain ⟨l0, l1, l2, l3, l4, l5, l6, l7⟩ := hS.2.2.2 k hk1
      have ho : ∀ j i : Nat, j ≠ k → 5 ≤ i → i ≤ 12 → va_up (va_up aO 0 (aO 0)) 5 (upd (aO 5) k p1) i j = aO i j := fun j i hj h5 h12 => by
        by_cases e : i = 5
        · subst e; rw [va_up_self, pk_un hj]
        · rw [va_up_ne _ _ e, va_up_ne _ _ (by omega)]
      have hdk := hD.2.2.2.2 k hk1
      refine ⟨l0, hS.set hS.1 ⟨by show p1 = upd (aO 5) k p1 k; rw [pk_us], l1, l2, l3, l4, l5, l6, l7⟩ ho, hD.set rfl rfl rfl ⟨by show 0 ≤ (upd (aO 5) k p1 k).toInt ∧ (upd (aO 5) k p1 k).toInt ≤ 2; rw [pk_us]; exact hb, hdk.2⟩ ho, hY, hN, hR, h36, hK, hz_set hz (hz k hk4), hzq⟩
    · have e1 : z = ((F_X6_refuse oM fY (F_X6_outside p1 0 2)).1, (F_X6_refuse oM fY (F_X6_outside p1 0 2)).2, LP) := by rw [ez]; unfold F_X6_sit; dsimp only; rw [if_pos w1, if_neg c]
      have e2 : y = ((F_X7_no oO aO (F_X6_outside p1 0 2)).1, (F_X7_no oO aO (F_X6_outside p1 0 2)).2, aO 5) := by rw [ey]; unfold F_X7_sit; dsimp only; rw [bd_eq, if_neg w2, if_neg c]
      have u := ref_no (M := oM) (o := oO) (a := aO) (w := F_X6_outside p1 0 2) h.2.2.1 bd_rng.1 bd_rng.2
      clear ez ey
      subst e1 e2
      exact ⟨u.1, h.cg u.2 rfl rfl rfl rfl rfl rfl rfl rfl rfl rfl rfl rfl rfl rfl rfl rfl rfl rfl rfl rfl rfl rfl rfl rfl rfl rfl⟩
  · have e1 : z = ((F_X6_refuse oM fY (-1)).1, (F_X6_refuse oM fY (-1)).2, LP) := by rw [ez]; unfold F_X6_sit; dsimp only; rw [if_neg w1]
    have e2 : y = ((F_X7_no oO aO (-1)).1, (F_X7_no oO aO (-1)).2, aO 5) := by rw [ey]; unfold F_X7_sit; dsimp only; rw [if_pos w2]
    have u := ref_no (M := oM) (o := oO) (a := aO) (w := -1) h.2.2.1 (by decide) (by decide)
    clear ez ey
    subst e1 e2
    exact ⟨u.1, h.cg u.2 rfl rfl rfl rfl rfl rfl rfl rfl rfl rfl rfl rfl rfl rfl rfl rfl rfl rfl rfl rfl rfl rfl rfl rfl rfl rfl⟩

theorem t_feed {oM : Nat → Int32} {nC : Int32} {qS : Nat → Nat → Int32} {nS : Int32} {gB : Nat → Int32} {LP : Nat → Nat → Int32} {fN : Nat → Int32} {nN : Int32} {fZ : Nat → Int32} {fY : Nat → Int32} {nE : Int32} {qU : Nat → Nat → Int32} {nU : Int32} {gH : Nat → Int32} {LQ : Nat → Nat → Int32} {oO : Nat → Int32} {aO : Nat → Nat → Int32} {p0 : Int32} (h : INV oM nC qS nS gB LP fN nN fZ fY nE qU nU gH LQ oO aO) {z : Int32 × (Nat → Int32) × Int32 × (Nat → Int32)} (ez : z = F_X6_feed oM fN nN fY p0) {y : Int32 × Int32 × (Nat → Int32) × (Nat → Int32)} (ey : y = F_X7_feed oO aO p0) : z.1 = y.1 ∧ INV oM nC qS nS gB LP z.2.1 z.2.2.1 fZ z.2.2.2 nE qU nU gH LQ (upd oO 23 y.2.1) (va_up (va_up aO 0 y.2.2.1) 19 y.2.2.2) := by
  obtain ⟨hN1, hN2, hN3⟩ := h.2.2.2.1
  have key : ∀ w : Int32, -7 < w.toInt → w.toInt ≤ 0 → z = ((F_X6_refuse oM fY w).1, fN, nN, (F_X6_refuse oM fY w).2) → y = ((F_X7_no oO aO w).1, oO 23, (F_X7_no oO aO w).2, aO 19) → z.1 = y.1 ∧ INV oM nC qS nS gB LP z.2.1 z.2.2.1 fZ z.2.2.2 nE qU nU gH LQ (upd oO 23 y.2.1) (va_up (va_up aO 0 y.2.2.1) 19 y.2.2.2) := by
    intro w hw1 hw2 e1 e2
    have u := ref_no (M := oM) (o := oO) (a := aO) (w := w) h.2.2.1 hw1 hw2
    clear ez ey
    subst e1 e2
    exact ⟨u.1, h.cg u.2 rfl rfl rfl rfl rfl rfl rfl rfl rfl rfl rfl rfl rfl rfl rfl rfl rfl rfl rfl rfl rfl rfl rfl rfl rfl rfl⟩
  by_cases c1 : 0 ≤ p0
  · by_cases c2 : 255 < p0
    · have eb : F_X7_bound p0 0 255 = -6 := by unfold F_X7_bound; rw [if_pos c1, if_neg (by rw [Int32.not_le]; exact c2)]
      exact key (-6) (by decide) (by decide) (by rw [ez]; unfold F_X6_feed; dsimp only; rw [if_pos c1, if_pos c2]) (by rw [ey]; unfold F_X7_feed; dsimp only; rw [eb, if_neg (by decide), if_neg (by decide)])
    · have eb : F_X7_bound p0 0 255 = 0 := by unfold F_X7_bound; rw [if_pos c1, if_pos (by rw [Int32.not_lt] at c2; exact c2)]
      by_cases c3 : oO 23 = 96
      · exact key (-6) (by decide) (by decide) (by rw [ez]; unfold F_X6_feed F_X1_isFull; dsimp only; rw [if_pos c1, if_neg c2, hN1, c3, if_neg (show ¬ (96 : Int32) < 96 by decide), if_neg (show ¬ (1 : Int32) = 0 by decide)]) (by rw [ey]; unfold F_X7_feed; dsimp only; rw [eb, if_pos rfl, if_pos c3])
      · have hlt : (oO 23).toInt < 96 := by
          have : (oO 23).toInt ≠ 96 := fun q => c3 (Int32.toInt_inj.mp q)
          omega
        have hlt' : nN < 96 := by rw [hN1, Int32.lt_iff_toInt_lt]; exact hlt
        obtain ⟨i, hi⟩ : ∃ i, i = (oO 23).toInt.toNat := ⟨_, rfl⟩
        have e23 : oO 23 = nI i := by rw [hi]; exact x_nIt hN2.1
        have e1 : z = (oO 23 + 1, upd fN i p0, oO 23 + 1, fY) := by
          rw [ez]
          unfold F_X6_feed F_X1_add F_X1_isFull
          dsimp only
          rw [if_pos c1, if_neg c2, if_pos hlt', if_pos rfl, if_pos rfl, hN1, e23, q_put (by omega) (by omega)]
        have e2 : y = (oO 23 + 1, oO 23 + 1, aO 0, upd (aO 19) i p0) := by
          rw [ey]
          unfold F_X7_feed
          dsimp only
          rw [eb, if_pos rfl, if_neg c3, if_pos rfl, e23, nI_clamp (by omega)]
        clear ez ey key
        subst e1 e2
        obtain ⟨hS, hD, hY, hN, hR, h36, hK, hz, hzq⟩ := h
        have ex := x_add1 (v := oO 23) (by omega)
        refine ⟨rfl, hS, hD, hY, ⟨rfl, ⟨by show 0 ≤ (oO 23 + 1).toInt; omega, by show (oO 23 + 1).toInt ≤ 96; omega⟩, fun j hj => ?_⟩, hR, h36, hK, hz, hzq⟩
        have hj' : (j : Int) < (oO 23 + 1).toInt := hj
        show upd fN i p0 j = upd (aO 19) i p0 j
        by_cases e : j = i
        · subst e; rw [pk_us, pk_us]
        · rw [pk_un e, pk_un e]; exact hN3 j (by omega)
  · have eb : F_X7_bound p0 0 255 = -4 := by unfold F_X7_bound; rw [if_neg c1]
    exact key (-4) (by decide) (by decide) (by rw [ez]; unfold F_X6_feed; dsimp only; rw [if_neg c1]) (by rw [ey]; unfold F_X7_feed; dsimp only; rw [eb, if_neg (by decide), if_neg (by decide)])

theorem t_row {oM : Nat → Int32} {nC : Int32} {qS : Nat → Nat → Int32} {nS : Int32} {gB : Nat → Int32} {LP : Nat → Nat → Int32} {fN : Nat → Int32} {nN : Int32} {fZ : Nat → Int32} {fY : Nat → Int32} {nE : Int32} {qU : Nat → Nat → Int32} {nU : Int32} {gH : Nat → Int32} {LQ : Nat → Nat → Int32} {oO : Nat → Int32} {aO : Nat → Nat → Int32} {p0 : Int32} (h : INV oM nC qS nS gB LP fN nN fZ fY nE qU nU gH LQ oO aO) {z : Int32 × (Nat → Int32) × (Nat → Int32) × (Nat → Int32)} (ez : z = F_X6_row oM fZ fY p0) {y : Int32 × Int32 × (Nat → Int32) × (Nat → Int32)} (ey : y = F_X7_row oO aO p0) : z.1 = y.1 ∧ INV z.2.1 nC qS nS gB LP fN nN z.2.2.1 z.2.2.2 nE qU nU gH LQ (upd oO 45 y.2.1) (va_up (va_up aO 0 y.2.2.1) 44 y.2.2.2) := by
  obtain ⟨hN1, hN2, hN3⟩ := h.2.2.2.2.1
  have key : ∀ w : Int32, -7 < w.toInt → w.toInt ≤ 0 → z = ((F_X6_refuse oM fY w).1, oM, fZ, (F_X6_refuse oM fY w).2) → y = ((F_X7_no oO aO w).1, oO 45, (F_X7_no oO aO w).2, aO 44) → z.1 = y.1 ∧ INV z.2.1 nC qS nS gB LP fN nN z.2.2.1 z.2.2.2 nE qU nU gH LQ (upd oO 45 y.2.1) (va_up (va_up aO 0 y.2.2.1) 44 y.2.2.2) := by
    intro w hw1 hw2 e1 e2
    have u := ref_no (M := oM) (o := oO) (a := aO) (w := w) h.2.2.1 hw1 hw2
    clear ez ey
    subst e1 e2
    exact ⟨u.1, h.cg u.2 rfl rfl rfl rfl rfl rfl rfl rfl rfl rfl rfl rfl rfl rfl rfl rfl rfl rfl rfl rfl rfl rfl rfl rfl rfl rfl⟩
  by_cases c1 : 0 ≤ p0
  · by_cases c2 : 9 < p0
    · have eb : F_X7_bound p0 0 9 = -6 := by unfold F_X7_bound; rw [if_pos c1, if_neg (by rw [Int32.not_le]; exact c2)]
      exact key (-6) (by decide) (by decide) (by rw [ez]; unfold F_X6_row; dsimp only; rw [if_pos c1, if_pos c2]) (by rw [ey]; unfold F_X7_row; dsimp only; rw [eb, if_neg (by decide), if_neg (by decide)])
    · have eb : F_X7_bound p0 0 9 = 0 := by unfold F_X7_bound; rw [if_pos c1, if_pos (by rw [Int32.not_lt] at c2; exact c2)]
      by_cases c3 : oO 45 = 12
      · exact key (-6) (by decide) (by decide) (by rw [ez]; unfold F_X6_row; dsimp only; rw [if_pos c1, if_neg c2, hN1, c3, if_neg (show ¬ (12 : Int32) < 12 by decide)]) (by rw [ey]; unfold F_X7_row; dsimp only; rw [eb, if_pos rfl, if_pos c3])
      · have hlt : (oO 45).toInt < 12 := by
          have : (oO 45).toInt ≠ 12 := fun q => c3 (Int32.toInt_inj.mp q)
          omega
        have hlt' : oM 8 < 12 := by rw [hN1, Int32.lt_iff_toInt_lt]; exact hlt
        obtain ⟨i, hi⟩ : ∃ i, i = (oO 45).toInt.toNat := ⟨_, rfl⟩
        have e45 : oO 45 = nI i := by rw [hi]; exact x_nIt hN2.1
        have e1 : z = (oO 45 + 1, upd oM 8 (oO 45 + 1), upd fZ i p0, fY) := by
          rw [ez]
          unfold F_X6_row
          dsimp only
          rw [if_pos c1, if_neg c2, if_pos hlt', hN1, e45, q_put (by omega) (by omega)]
        have e2 : y = (oO 45 + 1, oO 45 + 1, aO 0, upd (aO 44) i p0) := by
          rw [ey]
          unfold F_X7_row
          dsimp only
          rw [eb, if_pos rfl, if_neg c3, if_pos rfl, e45, nI_clamp (by omega)]
        clear ez ey key
        subst e1 e2
        obtain ⟨hS, hD, hY, hN, hR, h36, hK, hz, hzq⟩ := h
        have ex := x_add1 (v := oO 45) (by omega)
        have hp0 := i_le c1
        have hp9 := i_nlt c2
        rw [show (0 : Int32).toInt = 0 from rfl] at hp0
        rw [show (9 : Int32).toInt = 9 from rfl] at hp9
        refine ⟨rfl, hS, hD, hY, hN, ⟨rfl, ⟨by show 0 ≤ (oO 45 + 1).toInt; omega, by show (oO 45 + 1).toInt ≤ 12; omega⟩, fun j hj => ?_⟩, h36, hK, hz, hzq⟩
        have hj' : (j : Int) < (oO 45 + 1).toInt := hj
        show upd fZ i p0 j = upd (aO 44) i p0 j ∧ 0 ≤ (upd (aO 44) i p0 j).toInt ∧ (upd (aO 44) i p0 j).toInt ≤ 9
        by_cases e : j = i
        · subst e; rw [pk_us, pk_us]; exact ⟨rfl, hp0, hp9⟩
        · rw [pk_un e, pk_un e]; exact hN3 j (by omega)
  · have eb : F_X7_bound p0 0 9 = -4 := by unfold F_X7_bound; rw [if_neg c1]
    exact key (-4) (by decide) (by decide) (by rw [ez]; unfold F_X6_row; dsimp only; rw [if_neg c1]) (by rw [ey]; unfold F_X7_row; dsimp only; rw [eb, if_neg (by decide), if_neg (by decide)])
