/-! judge, seeds -/
theorem nI_ne9 {t : Nat} (h : t < 9) : ¬ nI t = 9 := fun e => by
  have := congrArg Int32.toInt e
  rw [nI_toInt (by omega), show (9 : Int32).toInt = 9 from rfl] at this
  omega
theorem nI_nl0 {t : Nat} (h : t < 1000) : ¬ nI t < 0 := fun e => by
  have := i_lt e
  rw [nI_toInt (by omega), show (0 : Int32).toInt = 0 from rfl] at this
  omega
theorem sd_x (y : Int32) : ∃ t : Nat, t < 5 ∧ (y &&& 2147483647) / 65536 - (y &&& 2147483647) / 65536 / 5 * 5 = nI t := by
  obtain ⟨j, hj, e⟩ := pk_andE y (m := 2147483647) 31 (by decide)
  have e1 : (y &&& 2147483647) / 65536 = nI (j / 65536) := by rw [e]; exact pk_div (d := 65536) hj (by omega) (by omega)
  refine ⟨j / 65536 % 5, Nat.mod_lt _ (by omega), ?_⟩
  rw [e1]
  exact pk_rem (d := 5) (by omega) (by omega) (by omega)
theorem go_9 {M : Nat → Int32} {nC : Int32} {q : Nat → Nat → Int32} {n : Int32} {g f : Nat → Int32} (h : f 7 = 0) : (F_X6_goesOn M nC q n g f 9).2 = F_X2_lookAway f g 1 := by
  unfold F_X6_goesOn
  rw [if_pos h, if_pos rfl]
  dsimp only
  split <;> rfl
theorem go_c {M : Nat → Int32} {nC : Int32} {q : Nat → Nat → Int32} {n : Int32} {g f : Nat → Int32} {p : Int32} (h : f 7 = 0) (h9 : ¬ p = 9) : (F_X6_goesOn M nC q n g f p).2 = (F_X2_readOn f q n g p).2 := by
  unfold F_X6_goesOn
  rw [if_pos h, if_neg h9]
  dsimp only
  split <;> rfl
/-- one told row -/
theorem go_told {M : Nat → Int32} {nC : Int32} {q : Nat → Nat → Int32} {n : Int32} {g f S : Nat → Int32} {a : Nat → Nat → Int32} {k : Nat} {p : Int32} (X : CX q n g S a k) (V : rV f a k (vS S)) (D : dM (vS S)) (hp : 0 ≤ p.toInt ∧ p.toInt ≤ 9) : ∃ (f' : Nat → Int32) (v' : Int32 × Int32 × Int32 × Int32 × Int32), F_X6_goesOn M nC q n g f p = ((F_X7_goesTold S a p).1, f') ∧ F_X7_goesTold S a p = ((F_X7_goesTold S a p).1, v'.1, v'.2.1, v'.2.2.1, v'.2.2.2.1, v'.2.2.2.2) ∧ rV f' a k v' ∧ dM v' := by
  have v7 : f 7 = S 35 := V.2.2.2.2.2.2.2
  rcases D.2.2.1 with d | d
  · have d : S 35 = 0 := d
    have f70 : f 7 = 0 := v7.trans d
    have n1 : ¬ S 35 = 1 := by rw [d]; decide
    by_cases c9 : p = 9
    · obtain ⟨V', D'⟩ := la_ok X V D d (s := 1) (by decide)
      obtain ⟨y7, ey7⟩ : ∃ v, v = F_X7_looksAway S a 1 := ⟨_, rfl⟩
      obtain ⟨f', ef⟩ : ∃ v, v = F_X2_lookAway f g 1 := ⟨_, rfl⟩
      rw [← ey7, ← ef] at V'
      rw [← ey7] at D'
      have e7 : f' 7 = y7.2.2 := V'.2.2.2.2.2.2.2
      have e1 : F_X6_goesOn M nC q n g f p = (if f' 7 = 0 then (1, f') else (0, f')) := by
        unfold F_X6_goesOn
        rw [if_pos f70, if_pos c9]
        dsimp only
        rw [← ef]
      have e2 : F_X7_goesTold S a p = (if y7.2.2 = 0 then (1, y7.1, y7.2.1, S 33, S 34, y7.2.2) else (0, y7.1, y7.2.1, S 33, S 34, y7.2.2)) := by
        unfold F_X7_goesTold
        rw [if_neg n1, if_pos c9]
        dsimp only
        rw [← ey7]
      rw [e1, e2, e7]
      by_cases c : y7.2.2 = 0
      · rw [if_pos c, if_pos c]; exact ⟨f', (y7.1, y7.2.1, S 33, S 34, y7.2.2), rfl, rfl, V', D'⟩
      · rw [if_neg c, if_neg c]; exact ⟨f', (y7.1, y7.2.1, S 33, S 34, y7.2.2), rfl, rfl, V', D'⟩
    · have hstay : F_X2_readOn f q n g p = (-3, f) → F_X7_goesTold S a p = (0, S 31, S 32, S 33, S 34, S 35) → ∃ (f' : Nat → Int32) (v' : Int32 × Int32 × Int32 × Int32 × Int32), F_X6_goesOn M nC q n g f p = ((F_X7_goesTold S a p).1, f') ∧ F_X7_goesTold S a p = ((F_X7_goesTold S a p).1, v'.1, v'.2.1, v'.2.2.1, v'.2.2.2.1, v'.2.2.2.2) ∧ rV f' a k v' ∧ dM v' := by
        intro h1 h2
        rw [h2]
        refine ⟨f, vS S, ?_, rfl, V, D⟩
        unfold F_X6_goesOn
        rw [if_pos f70, if_neg c9]
        dsimp only
        rw [h1, if_pos (show (-3 : Int32) < 0 by decide)]
      by_cases c4 : (4 : Int32) ≤ p
      · apply hstay
        · unfold F_X2_readOn
          rw [if_neg (show ¬ p < 0 by rw [Int32.lt_iff_toInt_lt, show (0 : Int32).toInt = 0 from rfl]; omega), if_pos c4]
        · unfold F_X7_goesTold
          rw [if_neg n1, if_neg c9, if_pos c4]
      · have hlt : p.toInt < 4 := by have := i_nle c4; rw [show (4 : Int32).toInt = 4 from rfl] at this; exact this
        rcases ro_ok X V D (c := p) ⟨hp.1, hlt⟩ with ⟨r1, r2⟩ | ⟨j, hj, r2, r1, rV', rD⟩
        · apply hstay r1
          unfold F_X7_goesTold
          rw [if_neg n1, if_neg c9, if_neg c4]
          dsimp only
          rw [r2, if_neg (show ¬ (0 : Int32) ≤ -9 by decide)]
        · obtain ⟨y7, ey7⟩ : ∃ v, v = F_X7_reads S a (nI j) := ⟨_, rfl⟩
          obtain ⟨z7, ez7⟩ : ∃ v, v = F_X2_readOn f q n g p := ⟨_, rfl⟩
          rw [← ey7, ← ez7] at rV'
          rw [← ey7] at rD
          rw [← ey7, ← ez7] at r1
          have e1 : F_X6_goesOn M nC q n g f p = (if z7.1 < 0 then (0, z7.2) else (1, z7.2)) := by
            unfold F_X6_goesOn
            rw [if_pos f70, if_neg c9]
            dsimp only
            rw [← ez7]
          have e2 : F_X7_goesTold S a p = (if y7.2.2.2.2 = 0 then (1, y7.1, y7.2.1, y7.2.2.1, y7.2.2.2.1, y7.2.2.2.2) else (0, y7.1, y7.2.1, y7.2.2.1, y7.2.2.2.1, y7.2.2.2.2)) := by
            unfold F_X7_goesTold
            rw [if_neg n1, if_neg c9, if_neg c4]
            dsimp only
            rw [r2, if_pos (nI_pos' (by omega)), ← ey7]
          rw [e1, e2, r1]
          rcases rD.2.2.1 with c | c
          · rw [if_neg (show ¬ y7.2.2.2.2 = 1 by rw [c]; decide), if_neg (nI_nl0 (by omega)), if_pos c]; exact ⟨z7.2, y7, rfl, rfl, rV', rD⟩
          · rw [if_pos c, if_pos (show (-9 : Int32) < 0 by decide), if_neg (show ¬ y7.2.2.2.2 = 0 by rw [c]; decide)]; exact ⟨z7.2, y7, rfl, rfl, rV', rD⟩
  · have d : S 35 = 1 := d
    have f71 : ¬ f 7 = 0 := by rw [v7, d]; decide
    have e2 : F_X7_goesTold S a p = (0, S 31, S 32, S 33, S 34, S 35) := by
      unfold F_X7_goesTold
      rw [if_pos d]
    rw [e2]
    refine ⟨f, vS S, ?_, rfl, V, D⟩
    unfold F_X6_goesOn
    rw [if_neg f71]
theorem jd_L {M : Nat → Int32} {nC : Int32} {wW : Nat → Nat} {q : Nat → Nat → Int32} {n : Int32} {g : Nat → Int32} {fK0 fZ fY : Nat → Int32} {LP : Nat → Nat → Int32} {o : Nat → Int32} {a : Nat → Nat → Int32} {k T : Nat} {p0 : Int32} {o3 : Int32 × Int32 × Int32 × Int32 × Int32 × Int32} (h3 : o3.1 = nI k) (hX : ∀ v, CX q n g (upd (mS o k v) 45 0) a k) (hM : M 8 = nI T) (ho : o 45 = nI T) (hT : T ≤ 12) (hZ : ∀ j, j < T → fZ j = a 44 j ∧ 0 ≤ (a 44 j).toInt ∧ (a 44 j).toInt ≤ 9) : ∀ (m i : Nat), i + m = T → ∀ (f1 f2 : Nat) (f : Nat → Int32) (v : Int32 × Int32 × Int32 × Int32 × Int32), m < f1 → m < f2 → rV f a k v → dM v →
    ∃ (w : Int32) (f' : Nat → Int32) (v' : Int32 × Int32 × Int32 × Int32 × Int32), F_X6_judge_L33 M nC wW q n g fK0 fZ fY LP p0 f1 f (-9) (nI i) = (w, upd M 8 0, f', fY) ∧ F_X7_judge_L31 o a p0 o3 f2 v.1 v.2.1 v.2.2.1 v.2.2.2.1 v.2.2.2.2 (nI i) = (w, nI k, v'.1, v'.2.1, v'.2.2.1, v'.2.2.2.1, v'.2.2.2.2, 0, a 0) := by
  intro m
  induction m with
  | zero =>
    intro i hi f1 f2 f v hf1 hf2 V D
    match f1, f2, hf1, hf2 with
    | f1 + 1, f2 + 1, _, _ =>
      refine ⟨-9, f, v, ?_, ?_⟩
      · rw [F_X6_judge_L33, if_pos (show M 8 ≤ nI i by rw [hM]; exact nI_le (by omega) (by omega))]
      · rw [F_X7_judge_L31, if_pos (show o 45 ≤ nI i by rw [ho]; exact nI_le (by omega) (by omega)), h3]
  | succ m ih =>
    intro i hi f1 f2 f v hf1 hf2 V D
    match f1, f2, hf1, hf2 with
    | f1 + 1, f2 + 1, hf1, hf2 =>
      have hl1 : ¬ M 8 ≤ nI i := by rw [hM]; exact nI_ge (by omega) (by omega)
      have hl2 : ¬ o 45 ≤ nI i := by rw [ho]; exact nI_ge (by omega) (by omega)
      obtain ⟨z1, z2⟩ := hZ i (by omega)
      obtain ⟨f', v', g1, g2, V', D'⟩ := go_told (M := M) (nC := nC) (p := a 44 i) (hX v) V D z2
      have e1 : F_X6_judge_L33 M nC wW q n g fK0 fZ fY LP p0 (f1 + 1) f (-9) (nI i) = (if (F_X7_goesTold (upd (mS o k v) 45 0) a (a 44 i)).1 = 0 then F_X6_judge_L33 M nC wW q n g fK0 fZ fY LP p0 f1 f' (nI i) (nI (i + 1)) else F_X6_judge_L33 M nC wW q n g fK0 fZ fY LP p0 f1 f' (-9) (nI (i + 1))) := by
        rw [F_X6_judge_L33, if_neg hl1, if_pos rfl]
        dsimp only
        rw [q_at (by omega) (by omega), z1, g1, nI_1]
      have e2 : F_X7_judge_L31 o a p0 o3 (f2 + 1) v.1 v.2.1 v.2.2.1 v.2.2.2.1 v.2.2.2.2 (nI i) = (if (F_X7_goesTold (upd (mS o k v) 45 0) a (a 44 i)).1 = 0 then (nI i, nI k, v'.1, v'.2.1, v'.2.2.1, v'.2.2.2.1, v'.2.2.2.2, 0, a 0) else F_X7_judge_L31 o a p0 o3 f2 v'.1 v'.2.1 v'.2.2.1 v'.2.2.2.1 v'.2.2.2.2 (nI (i + 1))) := by
        rw [F_X7_judge_L31, if_neg hl2]
        dsimp only
        rw [nI_clamp (by omega), h3, nI_1]
        have hS : upd (upd (upd (upd (upd (upd (upd o 30 (nI k)) 31 v.1) 32 v.2.1) 33 v.2.2.1) 34 v.2.2.2.1) 35 v.2.2.2.2) 45 0 = upd (mS o k v) 45 0 := rfl
        rw [hS, g2]
      rw [e1, e2]
      by_cases c : (F_X7_goesTold (upd (mS o k v) 45 0) a (a 44 i)).1 = 0
      · rw [if_pos c, if_pos c]
        refine ⟨nI i, f', v', ?_, rfl⟩
        match f1, hf1 with
        | f1 + 1, _ =>
          rw [F_X6_judge_L33]
          by_cases d : M 8 ≤ nI (i + 1)
          · rw [if_pos d]
          · rw [if_neg d, if_neg (eo_n9 (by omega))]
      · rw [if_neg c, if_neg c]
        exact ih (i + 1) (by omega) f1 f2 f' v' (by omega) (by omega) V' D'

theorem sd_L {M : Nat → Int32} {nC : Int32} {wW : Nat → Nat} {q : Nat → Nat → Int32} {n : Int32} {g : Nat → Int32} {fK0 fY : Nat → Int32} {LP : Nat → Nat → Int32} {o : Nat → Int32} {a : Nat → Nat → Int32} {k P : Nat} {p0 p1 p2 p3 r r' : Int32} {o6 : Int32 × Int32 × Int32 × Int32 × Int32 × Int32} (h6 : o6.1 = nI k) (hX : ∀ v, CX q n g (mS o k v) a k) (hP : p1 = nI P) (hP2 : P ≤ 20) : ∀ (m i : Nat), i + m = P → ∀ (f1 f2 : Nat) (f : Nat → Int32) (v : Int32 × Int32 × Int32 × Int32 × Int32) (s : Int32), m < f1 → m < f2 → rV f a k v → dM v →
    ∃ (w : Int32) (f' : Nat → Int32) (v' : Int32 × Int32 × Int32 × Int32 × Int32), F_X6_seeds_L77 M nC wW q n g fK0 fY LP p0 p1 p2 p3 r f1 f s (nI i) = (w, f', fY) ∧ F_X7_seeds_L63 o a p0 p1 p2 p3 r' o6 f2 v.1 v.2.1 v.2.2.1 v.2.2.2.1 v.2.2.2.2 s (nI i) = (w, nI k, v'.1, v'.2.1, v'.2.2.1, v'.2.2.2.1, v'.2.2.2.2, a 0) := by
  intro m
  have hend : ∀ (f : Nat → Int32) (v : Int32 × Int32 × Int32 × Int32 × Int32), rV f a k v → ∃ w : Int32, (if p3 = 0 then (F_X5_worthOfBits q n (f 6), f, fY) else (f 5, f, fY)) = (w, f, fY) ∧ (if p3 = 0 then (F_X7_worthOfAll (mS o k v) a v.2.2.2.1, nI k, v.1, v.2.1, v.2.2.1, v.2.2.2.1, v.2.2.2.2, a 0) else (v.2.2.1, nI k, v.1, v.2.1, v.2.2.1, v.2.2.2.1, v.2.2.2.2, a 0)) = (w, nI k, v.1, v.2.1, v.2.2.1, v.2.2.2.1, v.2.2.2.2, a 0) := by
    intro f v V
    obtain ⟨-, -, -, -, -, v5, v6, -⟩ := V
    by_cases c : p3 = 0
    · refine ⟨F_X7_worthOfAll (mS o k v) a v.2.2.2.1, ?_, ?_⟩
      · rw [if_pos c, v6, p_worths (hX v).1.1]
      · rw [if_pos c]
    · exact ⟨v.2.2.1, by rw [if_neg c, v5], by rw [if_neg c]⟩
  induction m with
  | zero =>
    intro i hi f1 f2 f v s hf1 hf2 V D
    match f1, f2, hf1, hf2 with
    | f1 + 1, f2 + 1, _, _ =>
      obtain ⟨w, h1, h2⟩ := hend f v V
      refine ⟨w, f, v, ?_, ?_⟩
      · rw [F_X6_seeds_L77, if_pos (show p1 ≤ nI i by rw [hP]; exact nI_le (by omega) (by omega))]
        exact h1
      · rw [F_X7_seeds_L63, if_pos (show p1 ≤ nI i by rw [hP]; exact nI_le (by omega) (by omega)), h6]
        exact h2
  | succ m ih =>
    intro i hi f1 f2 f v s hf1 hf2 V D
    match f1, f2, hf1, hf2 with
    | f1 + 1, f2 + 1, hf1, hf2 =>
      have hlt : ¬ p1 ≤ nI i := by rw [hP]; exact nI_ge (by omega) (by omega)
      have v7 := V.2.2.2.2.2.2.2
      by_cases c : v.2.2.2.2 = 0
      · have f70 : f 7 = 0 := v7.trans c
        obtain ⟨t, ht, hx⟩ := sd_x (s * 1103515245 + 12345)
        have e1 : ∀ x : Int32, x = nI t → F_X6_seeds_L77 M nC wW q n g fK0 fY LP p0 p1 p2 p3 r (f1 + 1) f s (nI i) = (if 4 ≤ x then F_X6_seeds_L77 M nC wW q n g fK0 fY LP p0 p1 p2 p3 r f1 (F_X6_goesOn M nC q n g f 9).2 (s * 1103515245 + 12345) (nI (i + 1)) else F_X6_seeds_L77 M nC wW q n g fK0 fY LP p0 p1 p2 p3 r f1 (F_X6_goesOn M nC q n g f x).2 (s * 1103515245 + 12345) (nI (i + 1))) := by
          intro x hxx
          rw [F_X6_seeds_L77, if_neg hlt, if_pos f70]
          dsimp only
          rw [hx, nI_1, hxx]
        have e2 : ∀ x : Int32, x = nI t → F_X7_seeds_L63 o a p0 p1 p2 p3 r' o6 (f2 + 1) v.1 v.2.1 v.2.2.1 v.2.2.2.1 v.2.2.2.2 s (nI i) = (if 4 ≤ x then F_X7_seeds_L63 o a p0 p1 p2 p3 r' o6 f2 (F_X7_looksAway (mS o k v) a 1).1 (F_X7_looksAway (mS o k v) a 1).2.1 v.2.2.1 v.2.2.2.1 (F_X7_looksAway (mS o k v) a 1).2.2 (s * 1103515245 + 12345) (nI (i + 1)) else if F_X7_firstIn (mS o k v) a x < 0 then F_X7_seeds_L63 o a p0 p1 p2 p3 r' o6 f2 v.1 v.2.1 v.2.2.1 v.2.2.2.1 v.2.2.2.2 (s * 1103515245 + 12345) (nI (i + 1)) else F_X7_seeds_L63 o a p0 p1 p2 p3 r' o6 f2 (F_X7_reads (mS o k v) a (F_X7_firstIn (mS o k v) a x)).1 (F_X7_reads (mS o k v) a (F_X7_firstIn (mS o k v) a x)).2.1 (F_X7_reads (mS o k v) a (F_X7_firstIn (mS o k v) a x)).2.2.1 (F_X7_reads (mS o k v) a (F_X7_firstIn (mS o k v) a x)).2.2.2.1 (F_X7_reads (mS o k v) a (F_X7_firstIn (mS o k v) a x)).2.2.2.2 (s * 1103515245 + 12345) (nI (i + 1))) := by
          intro x hxx
          rw [F_X7_seeds_L63, if_neg hlt, if_pos c]
          dsimp only
          rw [hx, nI_1, h6, ← hxx]
          rfl
        rcases Nat.lt_or_ge t 4 with c4 | c4
        · have h4 : ¬ (4 : Int32) ≤ nI t := nI_ge (b := 4) (by omega) (by omega)
          rw [e1 _ rfl, e2 _ rfl, if_neg h4, if_neg h4, go_c f70 (nI_ne9 (by omega))]
          rcases ro_ok (hX v) V D (c := nI t) (by rw [nI_toInt (by omega)]; omega) with ⟨r1, r2⟩ | ⟨j, hj, r2, r1, rV', rD⟩
          · rw [r1, r2, if_pos (show (-9 : Int32) < 0 by decide)]
            exact ih (i + 1) (by omega) f1 f2 f v _ (by omega) (by omega) V D
          · rw [r2, if_neg (nI_nl0 (by omega))]
            exact ih (i + 1) (by omega) f1 f2 _ _ _ (by omega) (by omega) rV' rD
        · have h4 : (4 : Int32) ≤ nI t := nI_le (a := 4) (by omega) (by omega)
          rw [e1 _ rfl, e2 _ rfl, if_pos h4, if_pos h4, go_9 f70]
          obtain ⟨V', D'⟩ := la_ok (hX v) V D c (s := 1) (by decide)
          exact ih (i + 1) (by omega) f1 f2 _ ((F_X7_looksAway (mS o k v) a 1).1, (F_X7_looksAway (mS o k v) a 1).2.1, v.2.2.1, v.2.2.2.1, (F_X7_looksAway (mS o k v) a 1).2.2) _ (by omega) (by omega) V' D'
      · have f70 : ¬ f 7 = 0 := fun e => c (v7.symm.trans e)
        obtain ⟨w, h1, h2⟩ := hend f v V
        refine ⟨w, f, v, ?_, ?_⟩
        · rw [F_X6_seeds_L77, if_neg hlt, if_neg f70]
          exact h1
        · rw [F_X7_seeds_L63, if_neg hlt, if_neg c, h6]
          exact h2

theorem sd_cxb {M : Nat → Int32} {nC : Int32} {wW : Nat → Nat} {q : Nat → Nat → Int32} {n : Int32} {g fK0 fY : Nat → Int32} {LP : Nat → Nat → Int32} {p0 p1 p2 p3 r : Int32} : ∀ (f1 : Nat) (f : Nat → Int32) (s i : Int32), F_X6_seeds_L77b M nC wW q n g fK0 fY LP p0 p1 p2 p3 r f1 f s i = F_X6_seeds_L77 M nC wW q n g fK0 fY LP p0 p1 p2 p3 r f1 f s i := by
  intro f1
  induction f1 with
  | zero => intro f s i; rfl
  | succ m ih =>
    intro f s i
    rw [F_X6_seeds_L77b, F_X6_seeds_L77]
    simp only [ih]
theorem sd_cxc {M : Nat → Int32} {nC : Int32} {wW : Nat → Nat} {q : Nat → Nat → Int32} {n : Int32} {g fK0 fY : Nat → Int32} {LP : Nat → Nat → Int32} {p0 p1 p2 p3 r : Int32} : ∀ (f1 : Nat) (f : Nat → Int32) (s i : Int32), F_X6_seeds_L77c M nC wW q n g fK0 fY LP p0 p1 p2 p3 r f1 f s i = F_X6_seeds_L77 M nC wW q n g fK0 fY LP p0 p1 p2 p3 r f1 f s i := by
  intro f1
  induction f1 with
  | zero => intro f s i; rfl
  | succ m ih =>
    intro f s i
    rw [F_X6_seeds_L77c, F_X6_seeds_L77]
    simp only [ih]
theorem sd_cm {o : Nat → Int32} {a : Nat → Nat → Int32} {p0 p1 p2 p3 r : Int32} {o6 : Int32 × Int32 × Int32 × Int32 × Int32 × Int32} : ∀ (f1 : Nat) (b1 b2 b3 b4 b5 s i : Int32), F_X7_seeds_L63b o a p0 p1 p2 p3 r o6 f1 b1 b2 b3 b4 b5 s i = F_X7_seeds_L63 o a p0 p1 p2 p3 r o6 f1 b1 b2 b3 b4 b5 s i := by
  intro f1
  induction f1 with
  | zero => intro b1 b2 b3 b4 b5 s i; rfl
  | succ m ih =>
    intro b1 b2 b3 b4 b5 s i
    rw [F_X7_seeds_L63b, F_X7_seeds_L63]
    simp only [ih]

theorem t_judge {oM : Nat → Int32} {nC : Int32} {qS : Nat → Nat → Int32} {nS : Int32} {gB : Nat → Int32} {LP : Nat → Nat → Int32} {fN : Nat → Int32} {nN : Int32} {fZ : Nat → Int32} {fY : Nat → Int32} {nE : Int32} {qU : Nat → Nat → Int32} {nU : Int32} {gH : Nat → Int32} {LQ : Nat → Nat → Int32} {oO : Nat → Int32} {aO : Nat → Nat → Int32} {wW : Nat → Nat} {fK : Nat → Int32} {p0 : Int32} (h : INV oM nC qS nS gB LP fN nN fZ fY nE qU nU gH LQ oO aO) {z : Int32 × (Nat → Int32) × (Nat → Int32) × (Nat → Int32)} (ez : z = F_X6_judge oM nC wW qS nS gB fK fZ fY LP p0) {y : Int32 × Int32 × Int32 × Int32 × Int32 × Int32 × Int32 × Int32 × (Nat → Int32)} (ey : y = F_X7_judge oO aO p0) : z.1 = y.1 ∧ INV z.2.1 nC qS nS gB LP fN nN fZ z.2.2.2 nE qU nU gH LQ (upd (upd (upd (upd (upd (upd (upd oO 30 y.2.1) 31 y.2.2.1) 32 y.2.2.2.1) 33 y.2.2.2.2.1) 34 y.2.2.2.2.2.1) 35 y.2.2.2.2.2.2.1) 45 y.2.2.2.2.2.2.2.1) (va_up aO 0 y.2.2.2.2.2.2.2.2) := by
  rcases wk_lk (p := p0) (a := aO) h.1.2.2.1 h.2.1.2.1 with ⟨w1, w2, k, hk, hk4, hk1, hkc⟩ | ⟨w1, w2⟩
  · obtain ⟨hS, hD, hY, hN, hR, h36, hK, hz, hzq⟩ := id h
    have hT : oO 45 = nI (oO 45).toInt.toNat := x_nIt hR.2.1.1
    have hTb : (oO 45).toInt.toNat ≤ 12 := by omega
    have hZ : ∀ j, j < (oO 45).toInt.toNat → fZ j = aO 44 j ∧ 0 ≤ (aO 44 j).toInt ∧ (aO 44 j).toInt ≤ 9 := fun j hj => hR.2.2 j (by omega)
    have ef : (((oM 8).toInt - (0 : Int32).toInt).toNat) + 1 = (((oO 45).toInt - (0 : Int32).toInt).toNat) + 1 := by rw [hR.1]
    have hfu : (oO 45).toInt.toNat < (((oO 45).toInt - (0 : Int32).toInt).toNat) + 1 := by rw [show (0 : Int32).toInt = 0 from rfl]; omega
    have hm : F_X7_minds (upd oO 45 0) aO p0 = (nI k, aO 8 k, aO 9 k, aO 10 k, aO 11 k, aO 12 k) := by rw [hk]; exact mi_eq hk4
    have hX : ∀ v, CX qS nS gB (upd (mS oO k v) 45 0) aO k := fun v => ⟨⟨h.1.1, h.1.2.1.1, h.2.1, hk1, rfl, h.2.2.2.2.2.1.2⟩, h.1.2.1.2, h.2.2.2.2.2.1.1⟩
    obtain ⟨w, f', v', g1, g2⟩ := jd_L (M := oM) (nC := nC) (wW := wW) (fK0 := fK) (fY := fY) (LP := LP) (p0 := p0) (o3 := (nI k, aO 8 k, aO 9 k, aO 10 k, aO 11 k, aO 12 k)) rfl hX (hR.1.trans hT) hT hTb hZ (oO 45).toInt.toNat 0 (by omega) _ _ (F_X2_become fK (LP k)) (aO 8 k, aO 9 k, aO 10 k, aO 11 k, aO 12 k) hfu hfu (h.rv hk1) (h.dm hk1)
    have e1 : z = (w, upd oM 8 0, f', fY) := by
      rw [ez]; unfold F_X6_judge; dsimp only; rw [if_pos w1, hkc, ef]
      exact g1
    have e2 : y = (w, nI k, v'.1, v'.2.1, v'.2.2.1, v'.2.2.2.1, v'.2.2.2.2, 0, aO 0) := by
      rw [ey]; unfold F_X7_judge; dsimp only; rw [if_neg w2, hm]
      exact g2
    clear ez ey g1 g2
    subst e1 e2
    exact ⟨rfl, hS, hD, hY, hN, ⟨rfl, (show 0 ≤ (0 : Int32).toInt ∧ (0 : Int32).toInt ≤ 12 by decide), fun j (hj : (j : Int) < (0 : Int32).toInt) => absurd hj (by rw [show (0 : Int32).toInt = 0 from rfl]; omega)⟩, h36, hK, hz, hzq⟩
  · have e1 : z = ((F_X6_refuse oM fY (-1)).1, oM, fK, (F_X6_refuse oM fY (-1)).2) := by rw [ez]; unfold F_X6_judge; dsimp only; rw [if_neg w1]
    have e2 : y = ((F_X7_no oO aO (-1)).1, oO 30, oO 31, oO 32, oO 33, oO 34, oO 35, oO 45, (F_X7_no oO aO (-1)).2) := by rw [ey]; unfold F_X7_judge; dsimp only; rw [if_pos w2]
    have u := ref_no (M := oM) (o := oO) (a := aO) (w := -1) h.2.2.1 (by decide) (by decide)
    clear ez ey
    subst e1 e2
    exact ⟨u.1, h.cg u.2 rfl rfl rfl rfl rfl rfl rfl rfl rfl rfl rfl rfl rfl rfl rfl rfl rfl rfl rfl rfl rfl rfl rfl rfl rfl rfl⟩

theorem t_seeds {oM : Nat → Int32} {nC : Int32} {qS : Nat → Nat → Int32} {nS : Int32} {gB : Nat → Int32} {LP : Nat → Nat → Int32} {fN : Nat → Int32} {nN : Int32} {fZ : Nat → Int32} {fY : Nat → Int32} {nE : Int32} {qU : Nat → Nat → Int32} {nU : Int32} {gH : Nat → Int32} {LQ : Nat → Nat → Int32} {oO : Nat → Int32} {aO : Nat → Nat → Int32} {wW : Nat → Nat} {fK : Nat → Int32} {p0 : Int32} {p1 : Int32} {p2 : Int32} {p3 : Int32} (h : INV oM nC qS nS gB LP fN nN fZ fY nE qU nU gH LQ oO aO) {z : Int32 × (Nat → Int32) × (Nat → Int32)} (ez : z = F_X6_seeds oM nC wW qS nS gB fK fY LP p0 p1 p2 p3) {y : Int32 × Int32 × Int32 × Int32 × Int32 × Int32 × Int32 × (Nat → Int32)} (ey : y = F_X7_seeds oO aO p0 p1 p2 p3) : z.1 = y.1 ∧ INV oM nC qS nS gB LP fN nN fZ z.2.2 nE qU nU gH LQ (upd (upd (upd (upd (upd (upd oO 30 y.2.1) 31 y.2.2.1) 32 y.2.2.2.1) 33 y.2.2.2.2.1) 34 y.2.2.2.2.2.1) 35 y.2.2.2.2.2.2.1) (va_up aO 0 y.2.2.2.2.2.2.2) := by
  have key : ∀ w : Int32, -7 < w.toInt → w.toInt ≤ 0 → z = ((F_X6_refuse oM fY w).1, fK, (F_X6_refuse oM fY w).2) → y = ((F_X7_no oO aO w).1, oO 30, oO 31, oO 32, oO 33, oO 34, oO 35, (F_X7_no oO aO w).2) → z.1 = y.1 ∧ INV oM nC qS nS gB LP fN nN fZ z.2.2 nE qU nU gH LQ (upd (upd (upd (upd (upd (upd oO 30 y.2.1) 31 y.2.2.1) 32 y.2.2.2.1) 33 y.2.2.2.2.1) 34 y.2.2.2.2.2.1) 35 y.2.2.2.2.2.2.1) (va_up aO 0 y.2.2.2.2.2.2.2) := by
    intro w hw1 hw2 e1 e2
    have u := ref_no (M := oM) (o := oO) (a := aO) (w := w) h.2.2.1 hw1 hw2
    clear ez ey
    subst e1 e2
    exact ⟨u.1, h.cg u.2 rfl rfl rfl rfl rfl rfl rfl rfl rfl rfl rfl rfl rfl rfl rfl rfl rfl rfl rfl rfl rfl rfl rfl rfl rfl rfl⟩
  rcases wk_lk (p := p0) (a := aO) h.1.2.2.1 h.2.1.2.1 with ⟨w1, w2, k, hk, hk4, hk1, hkc⟩ | ⟨w1, w2⟩
  · have e10 : ∀ p : Int32, (F_X7_isIn p 0 1 = 0 ∧ ¬ p = 0 ∧ ¬ p = 1) ∨ (F_X7_isIn p 0 1 = 1 ∧ (p = 0 ∨ p = 1)) := by
      intro p
      unfold F_X7_isIn
      by_cases c1 : p < 0
      · left; rw [if_pos c1]; exact ⟨rfl, fun e => absurd c1 (by rw [e]; decide), fun e => absurd c1 (by rw [e]; decide)⟩
      · rw [if_neg c1]
        by_cases c2 : (1 : Int32) < p
        · left; rw [if_pos c2]; exact ⟨rfl, fun e => absurd c2 (by rw [e]; decide), fun e => absurd c2 (by rw [e]; decide)⟩
        · right
          rw [if_neg c2]
          refine ⟨rfl, ?_⟩
          have h1 := i_nlt c1
          have h2 := i_nlt c2
          rw [show (0 : Int32).toInt = 0 from rfl] at h1
          rw [show (1 : Int32).toInt = 1 from rfl] at h2
          have : p.toInt = (0 : Int32).toInt ∨ p.toInt = (1 : Int32).toInt := by rw [show (0 : Int32).toInt = 0 from rfl, show (1 : Int32).toInt = 1 from rfl]; omega
          exact this.imp Int32.toInt_inj.1 Int32.toInt_inj.1
    by_cases cb : F_X6_outside p1 1 20 = 0
    · have hb := bd_in cb
      rw [show (1 : Int32).toInt = 1 from rfl, show (20 : Int32).toInt = 20 from rfl] at hb
      have hP : p1 = nI p1.toInt.toNat := x_nIt (by omega)
      have hP2 : p1.toInt.toNat ≤ 20 := by omega
      have hfu : p1.toInt.toNat < ((p1.toInt - (0 : Int32).toInt).toNat) + 1 := by rw [show (0 : Int32).toInt = 0 from rfl]; omega
      have hm : F_X7_minds oO aO p0 = (nI k, aO 8 k, aO 9 k, aO 10 k, aO 11 k, aO 12 k) := by rw [hk]; exact mi_eq hk4
      rcases e10 p3 with ⟨c0, c1, c2⟩ | ⟨c0, c1⟩
      · exact key (-2) (by decide) (by decide) (by rw [ez]; unfold F_X6_seeds; dsimp only; rw [if_pos w1, if_pos cb, if_neg c1, if_neg c2]) (by rw [ey]; unfold F_X7_seeds; dsimp only; rw [if_neg w2, bd_eq, if_pos cb, if_pos c0])
      · obtain ⟨w, f', v', g1, g2⟩ := sd_L (M := oM) (nC := nC) (wW := wW) (fK0 := fK) (fY := fY) (LP := LP) (p0 := p0) (p2 := p2) (p3 := p3) (r := F_X6_outside p1 1 20) (r' := F_X6_outside p1 1 20) (o6 := (nI k, aO 8 k, aO 9 k, aO 10 k, aO 11 k, aO 12 k)) rfl (fun v => h.cx hk1 v) hP hP2 p1.toInt.toNat 0 (by omega) _ _ (F_X2_become fK (LP k)) (aO 8 k, aO 9 k, aO 10 k, aO 11 k, aO 12 k) p2 hfu hfu (h.rv hk1) (h.dm hk1)
        have e1 : z = (w, f', fY) := by
          rw [ez]; unfold F_X6_seeds; dsimp only; rw [if_pos w1, if_pos cb, if_pos cb, hkc]
          rcases c1 with c | c
          · rw [if_pos c, sd_cxb]
            exact g1
          · rw [if_neg (show ¬ p3 = 0 by rw [c]; decide), if_pos c, if_pos cb, sd_cxc]
            exact g1
        have e2 : y = (w, nI k, v'.1, v'.2.1, v'.2.2.1, v'.2.2.2.1, v'.2.2.2.2, aO 0) := by
          rw [ey]; unfold F_X7_seeds; dsimp only; rw [if_neg w2, bd_eq, if_pos cb, if_neg (show ¬ F_X7_isIn p3 0 1 = 0 by rw [c0]; decide), if_pos cb, hm, sd_cm]
          exact g2
        clear ez ey g1 g2 key
        subst e1 e2
        exact ⟨rfl, h.cg h.2.2.1 rfl rfl rfl rfl rfl rfl rfl rfl rfl rfl rfl rfl rfl rfl rfl rfl rfl rfl rfl rfl rfl rfl rfl rfl rfl rfl⟩
    · exact key _ bd_rng.1 bd_rng.2 (by rw [ez]; unfold F_X6_seeds; dsimp only; rw [if_pos w1, if_neg cb, if_neg cb]) (by rw [ey]; unfold F_X7_seeds; dsimp only; rw [if_neg w2, bd_eq, if_neg cb, if_neg cb])
  · exact key (-1) (by decide) (by decide) (by rw [ez]; unfold F_X6_seeds; dsimp only; rw [if_neg w1]) (by rw [ey]; unfold F_X7_seeds; dsimp only; rw [if_pos w2])
