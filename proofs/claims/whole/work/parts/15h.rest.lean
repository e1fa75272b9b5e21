/-! rest, first -/
def mT (o : Nat → Int32) (k : Nat) (v : Int32 × Int32 × Int32 × Int32 × Int32) (x41 x42 x43 : Int32) : Nat → Int32 := upd (upd (upd (mS o k v) 41 x41) 42 x42) 43 x43
/-- the search after a step in mind -/
theorem mo_CX {q : Nat → Nat → Int32} {n : Int32} {g f S : Nat → Int32} {a : Nat → Nat → Int32} {k : Nat} (X : CX q n g S a k) (V : rV f a k (vS S)) (M : dM (vS S)) (bR : Nat → Nat → Int32) (cR : Nat → Int32) : (F_X7_findMost S a).1 = (F_X4_greatest bR cR q n g f 1000000).1 ∧ 0 ≤ (F_X7_findMost S a).1.toInt := by
  obtain ⟨X, hg4, h36⟩ := X
  obtain ⟨b, -, -, b3, b4, -, b6, -⟩ := mo_gen X.1 X.2.1 hg4 X.2.2.1 X.2.2.2.1 X.2.2.2.2.1 V M (mo_hO X.2.2.1 M h36 X.2.2.2.2.2) bR cR
  exact ⟨b6, by rw [b6, b4]; exact b3⟩
theorem rs_cx {M : Nat → Int32} {nC : Int32} {wW : Nat → Nat} {q : Nat → Nat → Int32} {n : Int32} {g : Nat → Int32} {b0 : Nat → Nat → Int32} {c0 fK0 fY : Nat → Int32} {LP : Nat → Nat → Int32} {p0 p1 : Int32} : ∀ (f1 : Nat) (b : Nat → Nat → Int32) (c f : Nat → Int32) (u v i : Int32), F_X6_rest_L48b M nC wW q n g b0 c0 fK0 fY LP p0 p1 f1 b c f u v i = F_X6_rest_L48 M nC wW q n g b0 c0 fK0 fY LP p0 p1 f1 b c f u v i := by
  intro f1
  induction f1 with
  | zero => intro b c f u v i; rfl
  | succ m ih =>
    intro b c f u v i
    rw [F_X6_rest_L48b, F_X6_rest_L48]
    simp only [ih]
theorem rs_L {M : Nat → Int32} {nC : Int32} {wW : Nat → Nat} {q : Nat → Nat → Int32} {n : Int32} {g : Nat → Int32} {b0 : Nat → Nat → Int32} {c0 fK0 fY : Nat → Int32} {LP : Nat → Nat → Int32} {o : Nat → Int32} {a : Nat → Nat → Int32} {k : Nat} {p1 : Int32} (hk : k < 4) (hX : ∀ (v : Int32 × Int32 × Int32 × Int32 × Int32) (x41 x42 x43 : Int32) (x38 x39 x40 : Nat → Int32), CX q n g (mT o k v x41 x42 x43) (va_up (va_up (va_up a 38 x38) 39 x39) 40 x40) k) (V : rV (LP k) a k (a 8 k, a 9 k, a 10 k, a 11 k, a 12 k)) (D : dM (a 8 k, a 9 k, a 10 k, a 11 k, a 12 k)) : ∀ (m i : Nat), i + m = 10 → 1 ≤ i → ∀ (f1 f2 : Nat) (b : Nat → Nat → Int32) (c f : Nat → Int32) (x38 x39 x40 : Nat → Int32) (x30 x31 x32 x33 x34 x35 x41 x42 x43 : Int32) (u v : Int32), m < f1 → m < f2 →
    (F_X6_rest_L48 M nC wW q n g b0 c0 fK0 fY LP (nI k) p1 f1 b c f u v (nI i)).1 = (F_X7_rest_L42 o a (nI k) p1 f2 x38 x39 x40 x30 x31 x32 x33 x34 x35 x41 x42 x43 u v (nI i)).1 ∧ (F_X6_rest_L48 M nC wW q n g b0 c0 fK0 fY LP (nI k) p1 f1 b c f u v (nI i)).2.2.2.2 = fY ∧ (F_X7_rest_L42 o a (nI k) p1 f2 x38 x39 x40 x30 x31 x32 x33 x34 x35 x41 x42 x43 u v (nI i)).2.2.2.2.2.2.2.2.2.2.1 = a 0 := by
  intro m
  induction m with
  | zero =>
    intro i hi h1 f1 f2 b c f x38 x39 x40 x30 x31 x32 x33 x34 x35 x41 x42 x43 u v hf1 hf2
    match f1, f2, hf1, hf2 with
    | f1 + 1, f2 + 1, _, _ =>
      rw [F_X6_rest_L48, F_X7_rest_L42, if_pos (show (9 : Int32) < nI i from nI_lt (a := 9) (by omega) (by omega)), if_pos (show (10 : Int32) ≤ nI i from nI_le (a := 10) (by omega) (by omega))]
      by_cases d : p1 = 0
      · rw [if_pos d, if_pos d]; exact ⟨rfl, rfl, rfl⟩
      · rw [if_neg d, if_neg d]; exact ⟨rfl, rfl, rfl⟩
  | succ m ih =>
    intro i hi h1 f1 f2 b c f x38 x39 x40 x30 x31 x32 x33 x34 x35 x41 x42 x43 u v hf1 hf2
    match f1, f2, hf1, hf2 with
    | f1 + 1, f2 + 1, hf1, hf2 =>
      have l7 : LP k 7 = a 12 k := V.2.2.2.2.2.2.2
      have hc9 : ¬ (9 : Int32) < nI i := nI_nlt (a := 9) (by omega) (by omega)
      have hc10 : ¬ (10 : Int32) ≤ nI i := nI_ge (b := 10) (by omega) (by omega)
      by_cases d : a 12 k = 0
      · have hS := hX (a 8 k, a 9 k, a 10 k, a 11 k, a 12 k) x41 x42 x43 x38 x39 x40
        obtain ⟨V', D'⟩ := la_ok (f := F_X2_become f (LP k)) (s := nI i) hS V D d (by rw [nI_toInt (by omega)]; omega)
        obtain ⟨A, eA⟩ : ∃ A, A = (va_up (va_up (va_up a 38 x38) 39 x39) 40 x40) := ⟨_, rfl⟩
        rw [← eA] at V' D'
        obtain ⟨Y, eY⟩ : ∃ Y, Y = F_X7_looksAway (mT o k (a 8 k, a 9 k, a 10 k, a 11 k, a 12 k) x41 x42 x43) A (nI i) := ⟨_, rfl⟩
        rw [← eY] at V' D'
        have hS2 := hX (Y.1, Y.2.1, a 10 k, a 11 k, Y.2.2) x41 x42 x43 x38 x39 x40
        rw [← eA] at hS2
        obtain ⟨g1, g2⟩ := mo_CX (S := mT o k (Y.1, Y.2.1, a 10 k, a 11 k, Y.2.2) x41 x42 x43) hS2 V' D' b c
        obtain ⟨G, eG⟩ : ∃ G, G = F_X7_findMost (mT o k (Y.1, Y.2.1, a 10 k, a 11 k, Y.2.2) x41 x42 x43) A := ⟨_, rfl⟩
        rw [← eG] at g1 g2
        obtain ⟨Z, eZ⟩ : ∃ Z, Z = F_X4_greatest b c q n g (F_X2_lookAway (F_X2_become f (LP k)) g (nI i)) 1000000 := ⟨_, rfl⟩
        rw [← eZ] at g1
        have e1 : F_X6_rest_L48 M nC wW q n g b0 c0 fK0 fY LP (nI k) p1 (f1 + 1) b c f u v (nI i) = if Z.1 ≤ v then F_X6_rest_L48 M nC wW q n g b0 c0 fK0 fY LP (nI k) p1 f1 Z.2.1 Z.2.2 (F_X2_lookAway (F_X2_become f (LP k)) g (nI i)) u v (nI (i + 1)) else F_X6_rest_L48 M nC wW q n g b0 c0 fK0 fY LP (nI k) p1 f1 Z.2.1 Z.2.2 (F_X2_lookAway (F_X2_become f (LP k)) g (nI i)) (nI i) Z.1 (nI (i + 1)) := by
          rw [F_X6_rest_L48, if_neg hc9, nI_clamp (by omega), if_pos (l7.trans d)]
          unfold F_X6_mostOf
          dsimp only
          rw [nI_1, ← eZ]
        have e2 : F_X7_rest_L42 o a (nI k) p1 (f2 + 1) x38 x39 x40 x30 x31 x32 x33 x34 x35 x41 x42 x43 u v (nI i) = if v < G.1 then F_X7_rest_L42 o a (nI k) p1 f2 G.2.2.2.2.2.2.2.2.2.1 G.2.2.2.2.2.2.2.2.2.2.1 G.2.2.2.2.2.2.2.2.2.2.2 (nI k) G.2.1 G.2.2.1 G.2.2.2.1 G.2.2.2.2.1 G.2.2.2.2.2.1 G.2.2.2.2.2.2.1 G.2.2.2.2.2.2.2.1 G.2.2.2.2.2.2.2.2.1 (nI i) G.1 (nI (i + 1)) else F_X7_rest_L42 o a (nI k) p1 f2 G.2.2.2.2.2.2.2.2.2.1 G.2.2.2.2.2.2.2.2.2.2.1 G.2.2.2.2.2.2.2.2.2.2.2 (nI k) G.2.1 G.2.2.1 G.2.2.2.1 G.2.2.2.2.1 G.2.2.2.2.2.1 G.2.2.2.2.2.2.1 G.2.2.2.2.2.2.2.1 G.2.2.2.2.2.2.2.2.1 u v (nI (i + 1)) := by
          rw [F_X7_rest_L42, if_neg hc10]
          dsimp only
          rw [nI_clamp (by omega), if_pos d, mi_eq hk, ← eA, nI_1, eG, eY, eA]
          rfl
        rw [e1, e2, ← g1]
        by_cases c2 : v < G.1
        · rw [if_pos c2, if_neg (show ¬ G.1 ≤ v by rw [Int32.lt_iff_toInt_lt] at c2; rw [Int32.le_iff_toInt_le]; omega)]
          exact ih (i + 1) (by omega) (by omega) f1 f2 _ _ _ _ _ _ _ _ _ _ _ _ _ _ _ _ _ (by omega) (by omega)
        · rw [if_neg c2, if_pos (show G.1 ≤ v by rw [Int32.lt_iff_toInt_lt] at c2; rw [Int32.le_iff_toInt_le]; omega)]
          exact ih (i + 1) (by omega) (by omega) f1 f2 _ _ _ _ _ _ _ _ _ _ _ _ _ _ _ _ _ (by omega) (by omega)
      · rw [F_X6_rest_L48, F_X7_rest_L42, if_neg hc9, if_neg hc10]
        dsimp only
        rw [nI_clamp (by omega), l7, if_neg d, if_neg d]
        by_cases d : p1 = 0
        · rw [if_pos d, if_pos d]; exact ⟨rfl, rfl, rfl⟩
        · rw [if_neg d, if_neg d]; exact ⟨rfl, rfl, rfl⟩
theorem fs_L {M : Nat → Int32} {nC : Int32} {wW : Nat → Nat} {q : Nat → Nat → Int32} {n : Int32} {g : Nat → Int32} {b0 : Nat → Nat → Int32} {c0 fK0 fY : Nat → Int32} {LP : Nat → Nat → Int32} {o : Nat → Int32} {a : Nat → Nat → Int32} {k : Nat} (hk : k < 4) (hX : ∀ (v : Int32 × Int32 × Int32 × Int32 × Int32) (x41 x42 x43 : Int32) (x38 x39 x40 : Nat → Int32), CX q n g (mT o k v x41 x42 x43) (va_up (va_up (va_up a 38 x38) 39 x39) 40 x40) k) (V : rV (LP k) a k (a 8 k, a 9 k, a 10 k, a 11 k, a 12 k)) (D : dM (a 8 k, a 9 k, a 10 k, a 11 k, a 12 k)) : ∀ (m i : Nat), i + m = 4 → ∀ (f1 f2 : Nat) (b : Nat → Nat → Int32) (c f : Nat → Int32) (x38 x39 x40 : Nat → Int32) (x30 x31 x32 x33 x34 x35 x41 x42 x43 : Int32) (u v v' : Int32), m < f1 → m < f2 → ((v = -1 ∧ v' = -9) ∨ (v = v' ∧ 0 ≤ v'.toInt)) →
    (F_X6_first_L28 M nC wW q n g b0 c0 fK0 fY LP (nI k) f1 b c f u v (nI i)).1 = (F_X7_first_L23 o a (nI k) f2 x38 x39 x40 x30 x31 x32 x33 x34 x35 x41 x42 x43 u v' (nI i)).1 ∧ (F_X6_first_L28 M nC wW q n g b0 c0 fK0 fY LP (nI k) f1 b c f u v (nI i)).2.2.2.2 = fY ∧ (F_X7_first_L23 o a (nI k) f2 x38 x39 x40 x30 x31 x32 x33 x34 x35 x41 x42 x43 u v' (nI i)).2.2.2.2.2.2.2.2.2.2.1 = a 0 := by
  intro m
  induction m with
  | zero =>
    intro i hi f1 f2 b c f x38 x39 x40 x30 x31 x32 x33 x34 x35 x41 x42 x43 u v v' hf1 hf2 hv
    match f1, f2, hf1, hf2 with
    | f1 + 1, f2 + 1, _, _ =>
      rw [F_X6_first_L28, F_X7_first_L23, if_pos (show (4 : Int32) ≤ nI i from l4_le (by omega) (by omega)), if_pos (show (4 : Int32) ≤ nI i from l4_le (by omega) (by omega))]
      exact ⟨rfl, rfl, rfl⟩
  | succ m ih =>
    intro i hi f1 f2 b c f x38 x39 x40 x30 x31 x32 x33 x34 x35 x41 x42 x43 u v v' hf1 hf2 hv
    match f1, f2, hf1, hf2 with
    | f1 + 1, f2 + 1, hf1, hf2 =>
      have hc4 : ¬ (4 : Int32) ≤ nI i := l4_nle (by omega)
      have hv1 : (-1 : Int32) ≤ v := by
        rcases hv with ⟨e, -⟩ | ⟨e, e2⟩
        · rw [e]; decide
        · rw [Int32.le_iff_toInt_le, e, show (-1 : Int32).toInt = -1 from rfl]; omega
      have hS := hX (a 8 k, a 9 k, a 10 k, a 11 k, a 12 k) x41 x42 x43 x38 x39 x40
      obtain ⟨A, eA⟩ : ∃ A, A = (va_up (va_up (va_up a 38 x38) 39 x39) 40 x40) := ⟨_, rfl⟩
      rw [← eA] at hS
      obtain ⟨F, eF⟩ : ∃ F, F = F_X2_become f (LP k) := ⟨_, rfl⟩
      have VF : rV F A k (a 8 k, a 9 k, a 10 k, a 11 k, a 12 k) := by rw [eF, eA]; exact V
      rcases ro_ok (S := mT o k (a 8 k, a 9 k, a 10 k, a 11 k, a 12 k) x41 x42 x43) hS VF D (c := nI i) (by rw [nI_toInt (by omega)]; omega) with ⟨r1, r2⟩ | ⟨j, hj, r2, r1, rV', rD⟩
      · have e1 : F_X6_first_L28 M nC wW q n g b0 c0 fK0 fY LP (nI k) (f1 + 1) b c f u v (nI i) = F_X6_first_L28 M nC wW q n g b0 c0 fK0 fY LP (nI k) f1 b c F u v (nI (i + 1)) := by
          rw [F_X6_first_L28, if_neg hc4, nI_clamp (by omega)]
          dsimp only
          rw [← eF, r1, if_pos rfl, if_pos hv1, nI_1]
        have e2 : F_X7_first_L23 o a (nI k) (f2 + 1) x38 x39 x40 x30 x31 x32 x33 x34 x35 x41 x42 x43 u v' (nI i) = F_X7_first_L23 o a (nI k) f2 x38 x39 x40 (nI k) (a 8 k) (a 9 k) (a 10 k) (a 11 k) (a 12 k) x41 x42 x43 u v' (nI (i + 1)) := by
          rw [F_X7_first_L23, if_neg hc4]
          dsimp only
          rw [mi_eq hk, ← eA, nI_1]
          refine (if_neg (fun e => ?_)).trans (by rw [eA]; rfl)
          have r2' : F_X7_firstIn (mT o k (A 8 k, A 9 k, A 10 k, A 11 k, A 12 k) x41 x42 x43) A (nI i) = -9 := by rw [eA] at r2 ⊢; exact r2
          have e' : (0 : Int32) ≤ F_X7_firstIn (mT o k (A 8 k, A 9 k, A 10 k, A 11 k, A 12 k) x41 x42 x43) A (nI i) := e
          rw [r2'] at e'
          exact absurd e' (by decide)
        rw [e1, e2]
        exact ih (i + 1) (by omega) f1 f2 _ _ _ _ _ _ _ _ _ _ _ _ _ _ _ _ _ _ (by omega) (by omega) hv
      · obtain ⟨Y, eY⟩ : ∃ Y, Y = F_X7_reads (mT o k (a 8 k, a 9 k, a 10 k, a 11 k, a 12 k) x41 x42 x43) A (nI j) := ⟨_, rfl⟩
        rw [← eY] at rV' rD r1
        obtain ⟨z, ez⟩ : ∃ z, z = F_X2_readOn F q n g (nI i) := ⟨_, rfl⟩
        rw [← ez] at rV' r1
        have hS2 := hX Y x41 x42 x43 x38 x39 x40
        rw [← eA] at hS2
        obtain ⟨g1, g2⟩ := mo_CX (S := mT o k Y x41 x42 x43) hS2 rV' rD b c
        obtain ⟨G, eG⟩ : ∃ G, G = F_X7_findMost (mT o k Y x41 x42 x43) A := ⟨_, rfl⟩
        rw [← eG] at g1 g2
        obtain ⟨Z, eZ⟩ : ∃ Z, Z = F_X4_greatest b c q n g z.2 1000000 := ⟨_, rfl⟩
        rw [← eZ] at g1
        have hz3 : ¬ z.1 = -3 := by
          rw [r1]
          split
          · decide
          · intro e
            have := congrArg Int32.toInt e
            rw [nI_toInt (by omega), show (-3 : Int32).toInt = -3 from rfl] at this
            omega
        have e1 : F_X6_first_L28 M nC wW q n g b0 c0 fK0 fY LP (nI k) (f1 + 1) b c f u v (nI i) = if Z.1 ≤ v then F_X6_first_L28 M nC wW q n g b0 c0 fK0 fY LP (nI k) f1 Z.2.1 Z.2.2 z.2 u v (nI (i + 1)) else F_X6_first_L28 M nC wW q n g b0 c0 fK0 fY LP (nI k) f1 Z.2.1 Z.2.2 z.2 (nI i) Z.1 (nI (i + 1)) := by
          rw [F_X6_first_L28, if_neg hc4, nI_clamp (by omega)]
          unfold F_X6_mostOf
          dsimp only
          rw [← eF, ← ez, if_neg hz3, nI_1, ← eZ]
        have e2 : F_X7_first_L23 o a (nI k) (f2 + 1) x38 x39 x40 x30 x31 x32 x33 x34 x35 x41 x42 x43 u v' (nI i) = if v' < G.1 then F_X7_first_L23 o a (nI k) f2 G.2.2.2.2.2.2.2.2.2.1 G.2.2.2.2.2.2.2.2.2.2.1 G.2.2.2.2.2.2.2.2.2.2.2 (nI k) G.2.1 G.2.2.1 G.2.2.2.1 G.2.2.2.2.1 G.2.2.2.2.2.1 G.2.2.2.2.2.2.1 G.2.2.2.2.2.2.2.1 G.2.2.2.2.2.2.2.2.1 (nI i) G.1 (nI (i + 1)) else F_X7_first_L23 o a (nI k) f2 G.2.2.2.2.2.2.2.2.2.1 G.2.2.2.2.2.2.2.2.2.2.1 G.2.2.2.2.2.2.2.2.2.2.2 (nI k) G.2.1 G.2.2.1 G.2.2.2.1 G.2.2.2.2.1 G.2.2.2.2.2.1 G.2.2.2.2.2.2.1 G.2.2.2.2.2.2.2.1 G.2.2.2.2.2.2.2.2.1 u v' (nI (i + 1)) := by
          have r2' : F_X7_firstIn (mT o k (A 8 k, A 9 k, A 10 k, A 11 k, A 12 k) x41 x42 x43) A (nI i) = nI j := by rw [eA] at r2 ⊢; exact r2
          have r2'' : F_X7_firstIn (upd (upd (upd (upd (upd (upd (upd (upd (upd o 30 (nI k)) 31 (A 8 k)) 32 (A 9 k)) 33 (A 10 k)) 34 (A 11 k)) 35 (A 12 k)) 41 x41) 42 x42) 43 x43) A (nI i) = nI j := r2'
          rw [F_X7_first_L23, if_neg hc4]
          dsimp only
          rw [mi_eq hk, ← eA]
          dsimp only
          rw [r2'', if_pos (nI_pos' (by omega)), nI_1, eG, eY, eA]
          rfl
        rw [e1, e2, ← g1]
        by_cases c2 : v' < G.1
        · rw [if_pos c2, if_neg (show ¬ G.1 ≤ v by
            rw [Int32.lt_iff_toInt_lt] at c2
            rw [Int32.le_iff_toInt_le]
            rcases hv with ⟨e, e2⟩ | ⟨e, -⟩
            · rw [e, show (-1 : Int32).toInt = -1 from rfl]; omega
            · rw [e]; omega)]
          exact ih (i + 1) (by omega) f1 f2 _ _ _ _ _ _ _ _ _ _ _ _ _ _ _ _ _ _ (by omega) (by omega) (Or.inr ⟨rfl, g2⟩)
        · rw [if_neg c2, if_pos (show G.1 ≤ v by
            rw [Int32.lt_iff_toInt_lt] at c2
            rw [Int32.le_iff_toInt_le]
            rcases hv with ⟨e, e2⟩ | ⟨e, -⟩
            · exfalso; rw [e2, show (-9 : Int32).toInt = -9 from rfl] at c2; omega
            · rw [e]; omega)]
          exact ih (i + 1) (by omega) f1 f2 _ _ _ _ _ _ _ _ _ _ _ _ _ _ _ _ _ _ (by omega) (by omega) hv
theorem in01 (p : Int32) : (F_X7_isIn p 0 1 = 0 ∧ ¬ p = 0 ∧ ¬ p = 1) ∨ (F_X7_isIn p 0 1 = 1 ∧ (p = 0 ∨ p = 1)) := by
  unfold F_X7_isIn
  by_cases c1 : p < 0
  · left; rw [if_pos c1]; exact ⟨rfl, fun e => absurd c1 (by rw [e]; decide), fun e => absurd c1 (by rw [e]; decide)⟩
  · rw [if_neg c1]
    by_cases c2 : (1 : Int32) < p
    · left; rw [if_pos c2]; exact ⟨rfl, fun e => absurd c2 (by rw [e]; decide), fun e => absurd c2 (by rw [e]; decide)⟩
    · right
      rw [if_neg c2]
      refine ⟨rfl, ?_⟩
      have h1 := i_nlt c1
      have h2 := i_nlt c2
      rw [show (0 : Int32).toInt = 0 from rfl] at h1
      rw [show (1 : Int32).toInt = 1 from rfl] at h2
      have : p.toInt = (0 : Int32).toInt ∨ p.toInt = (1 : Int32).toInt := by rw [show (0 : Int32).toInt = 0 from rfl, show (1 : Int32).toInt = 1 from rfl]; omega
      exact this.imp Int32.toInt_inj.1 Int32.toInt_inj.1

theorem t_first {oM : Nat → Int32} {nC : Int32} {qS : Nat → Nat → Int32} {nS : Int32} {gB : Nat → Int32} {LP : Nat → Nat → Int32} {fN : Nat → Int32} {nN : Int32} {fZ : Nat → Int32} {fY : Nat → Int32} {nE : Int32} {qU : Nat → Nat → Int32} {nU : Int32} {gH : Nat → Int32} {LQ : Nat → Nat → Int32} {oO : Nat → Int32} {aO : Nat → Nat → Int32} {wW : Nat → Nat} {bR : Nat → Nat → Int32} {cR : Nat → Int32} {fK : Nat → Int32} {p0 : Int32} (h : INV oM nC qS nS gB LP fN nN fZ fY nE qU nU gH LQ oO aO) {z : Int32 × (Nat → Nat → Int32) × (Nat → Int32) × (Nat → Int32) × (Nat → Int32)} (ez : z = F_X6_first oM nC wW qS nS gB bR cR fK fY LP p0) {y : Int32 × Int32 × Int32 × Int32 × Int32 × Int32 × Int32 × Int32 × Int32 × Int32 × (Nat → Int32) × (Nat → Int32) × (Nat → Int32) × (Nat → Int32)} (ey : y = F_X7_first oO aO p0) : z.1 = y.1 ∧ INV oM nC qS nS gB LP fN nN fZ z.2.2.2.2 nE qU nU gH LQ (upd (upd (upd (upd (upd (upd (upd (upd (upd oO 30 y.2.1) 31 y.2.2.1) 32 y.2.2.2.1) 33 y.2.2.2.2.1) 34 y.2.2.2.2.2.1) 35 y.2.2.2.2.2.2.1) 41 y.2.2.2.2.2.2.2.1) 42 y.2.2.2.2.2.2.2.2.1) 43 y.2.2.2.2.2.2.2.2.2.1) (va_up (va_up (va_up (va_up aO 0 y.2.2.2.2.2.2.2.2.2.2.1) 38 y.2.2.2.2.2.2.2.2.2.2.2.1) 39 y.2.2.2.2.2.2.2.2.2.2.2.2.1) 40 y.2.2.2.2.2.2.2.2.2.2.2.2.2) := by
  have key : ∀ w : Int32, -7 < w.toInt → w.toInt ≤ 0 → z = ((F_X6_refuse oM fY w).1, bR, cR, fK, (F_X6_refuse oM fY w).2) → y = ((F_X7_no oO aO w).1, oO 30, oO 31, oO 32, oO 33, oO 34, oO 35, oO 41, oO 42, oO 43, (F_X7_no oO aO w).2, aO 38, aO 39, aO 40) → z.1 = y.1 ∧ INV oM nC qS nS gB LP fN nN fZ z.2.2.2.2 nE qU nU gH LQ (upd (upd (upd (upd (upd (upd (upd (upd (upd oO 30 y.2.1) 31 y.2.2.1) 32 y.2.2.2.1) 33 y.2.2.2.2.1) 34 y.2.2.2.2.2.1) 35 y.2.2.2.2.2.2.1) 41 y.2.2.2.2.2.2.2.1) 42 y.2.2.2.2.2.2.2.2.1) 43 y.2.2.2.2.2.2.2.2.2.1) (va_up (va_up (va_up (va_up aO 0 y.2.2.2.2.2.2.2.2.2.2.1) 38 y.2.2.2.2.2.2.2.2.2.2.2.1) 39 y.2.2.2.2.2.2.2.2.2.2.2.2.1) 40 y.2.2.2.2.2.2.2.2.2.2.2.2.2) := by
    intro w hw1 hw2 e1 e2
    have u := ref_no (M := oM) (o := oO) (a := aO) (w := w) h.2.2.1 hw1 hw2
    clear ez ey
    subst e1 e2
    exact ⟨u.1, h.cg u.2 rfl rfl rfl rfl rfl rfl rfl rfl rfl rfl rfl rfl rfl rfl rfl rfl rfl rfl rfl rfl rfl rfl rfl rfl rfl rfl⟩
  rcases wk_lk (p := p0) (a := aO) h.1.2.2.1 h.2.1.2.1 with ⟨w1, w2, k, hk, hk4, hk1, hkc⟩ | ⟨w1, w2⟩
  · have hX : ∀ (v : Int32 × Int32 × Int32 × Int32 × Int32) (x41 x42 x43 : Int32) (x38 x39 x40 : Nat → Int32), CX qS nS gB (mT oO k v x41 x42 x43) (va_up (va_up (va_up aO 38 x38) 39 x39) 40 x40) k := fun v x41 x42 x43 x38 x39 x40 => ⟨⟨⟨h.1.1.1, h.1.1.2.1, fun j hj => h.1.1.2.2 j hj⟩, h.1.2.1.1, h.2.1, hk1, rfl, h.2.2.2.2.2.1.2⟩, h.1.2.1.2, h.2.2.2.2.2.1.1⟩
    obtain ⟨w, a1, a2⟩ := fs_L (M := oM) (nC := nC) (wW := wW) (b0 := bR) (c0 := cR) (fK0 := fK) (fY := fY) hk4 hX (h.rv hk1) (h.dm hk1) 4 0 rfl ((((4 : Int32).toInt - (0 : Int32).toInt).toNat) + 1) ((((4 : Int32).toInt - (0 : Int32).toInt).toNat) + 1) bR cR fK (aO 38) (aO 39) (aO 40) (oO 30) (oO 31) (oO 32) (oO 33) (oO 34) (oO 35) (oO 41) (oO 42) (oO 43) (-9) (-1) (-9) (by decide) (by decide) (Or.inl ⟨rfl, rfl⟩)
    have e1 : z = F_X6_first_L28 oM nC wW qS nS gB bR cR fK fY LP (nI k) ((((4 : Int32).toInt - (0 : Int32).toInt).toNat) + 1) bR cR fK (-9) (-1) (nI 0) := by
      rw [ez]; unfold F_X6_first; dsimp only; rw [if_pos w1, hk]; rfl
    have e2 : y = F_X7_first_L23 oO aO (nI k) ((((4 : Int32).toInt - (0 : Int32).toInt).toNat) + 1) (aO 38) (aO 39) (aO 40) (oO 30) (oO 31) (oO 32) (oO 33) (oO 34) (oO 35) (oO 41) (oO 42) (oO 43) (-9) (-9) (nI 0) := by
      rw [ey]; unfold F_X7_first; dsimp only; rw [if_neg w2, hk]; rfl
    rw [← e1, ← e2] at w
    rw [← e1] at a1
    rw [← e2] at a2
    clear e1 e2 ez ey key
    refine ⟨w, h.cg (?_ : rY _ _) rfl rfl rfl rfl rfl rfl rfl rfl rfl rfl rfl rfl rfl rfl rfl rfl rfl rfl rfl rfl rfl rfl rfl rfl rfl rfl⟩
    rw [a1]
    show rY fY y.2.2.2.2.2.2.2.2.2.2.1
    rw [a2]
    exact h.2.2.1
  · exact key (-1) (by decide) (by decide) (by rw [ez]; unfold F_X6_first; dsimp only; rw [if_neg w1]) (by rw [ey]; unfold F_X7_first; dsimp only; rw [if_pos w2])

theorem t_rest {oM : Nat → Int32} {nC : Int32} {qS : Nat → Nat → Int32} {nS : Int32} {gB : Nat → Int32} {LP : Nat → Nat → Int32} {fN : Nat → Int32} {nN : Int32} {fZ : Nat → Int32} {fY : Nat → Int32} {nE : Int32} {qU : Nat → Nat → Int32} {nU : Int32} {gH : Nat → Int32} {LQ : Nat → Nat → Int32} {oO : Nat → Int32} {aO : Nat → Nat → Int32} {wW : Nat → Nat} {bR : Nat → Nat → Int32} {cR : Nat → Int32} {fK : Nat → Int32} {p0 : Int32} {p1 : Int32} (h : INV oM nC qS nS gB LP fN nN fZ fY nE qU nU gH LQ oO aO) {z : Int32 × (Nat → Nat → Int32) × (Nat → Int32) × (Nat → Int32) × (Nat → Int32)} (ez : z = F_X6_rest oM nC wW qS nS gB bR cR fK fY LP p0 p1) {y : Int32 × Int32 × Int32 × Int32 × Int32 × Int32 × Int32 × Int32 × Int32 × Int32 × (Nat → Int32) × (Nat → Int32) × (Nat → Int32) × (Nat → Int32)} (ey : y = F_X7_rest oO aO p0 p1) : z.1 = y.1 ∧ INV oM nC qS nS gB LP fN nN fZ z.2.2.2.2 nE qU nU gH LQ (upd (upd (upd (upd (upd (upd (upd (upd (upd oO 30 y.2.1) 31 y.2.2.1) 32 y.2.2.2.1) 33 y.2.2.2.2.1) 34 y.2.2.2.2.2.1) 35 y.2.2.2.2.2.2.1) 41 y.2.2.2.2.2.2.2.1) 42 y.2.2.2.2.2.2.2.2.1) 43 y.2.2.2.2.2.2.2.2.2.1) (va_up (va_up (va_up (va_up aO 0 y.2.2.2.2.2.2.2.2.2.2.1) 38 y.2.2.2.2.2.2.2.2.2.2.2.1) 39 y.2.2.2.2.2.2.2.2.2.2.2.2.1) 40 y.2.2.2.2.2.2.2.2.2.2.2.2.2) := by
  have key : ∀ w : Int32, -7 < w.toInt → w.toInt ≤ 0 → z = ((F_X6_refuse oM fY w).1, bR, cR, fK, (F_X6_refuse oM fY w).2) → y = ((F_X7_no oO aO w).1, oO 30, oO 31, oO 32, oO 33, oO 34, oO 35, oO 41, oO 42, oO 43, (F_X7_no oO aO w).2, aO 38, aO 39, aO 40) → z.1 = y.1 ∧ INV oM nC qS nS gB LP fN nN fZ z.2.2.2.2 nE qU nU gH LQ (upd (upd (upd (upd (upd (upd (upd (upd (upd oO 30 y.2.1) 31 y.2.2.1) 32 y.2.2.2.1) 33 y.2.2.2.2.1) 34 y.2.2.2.2.2.1) 35 y.2.2.2.2.2.2.1) 41 y.2.2.2.2.2.2.2.1) 42 y.2.2.2.2.2.2.2.2.1) 43 y.2.2.2.2.2.2.2.2.2.1) (va_up (va_up (va_up (va_up aO 0 y.2.2.2.2.2.2.2.2.2.2.1) 38 y.2.2.2.2.2.2.2.2.2.2.2.1) 39 y.2.2.2.2.2.2.2.2.2.2.2.2.1) 40 y.2.2.2.2.2.2.2.2.2.2.2.2.2) := by
    intro w hw1 hw2 e1 e2
    have u := ref_no (M := oM) (o := oO) (a := aO) (w := w) h.2.2.1 hw1 hw2
    clear ez ey
    subst e1 e2
    exact ⟨u.1, h.cg u.2 rfl rfl rfl rfl rfl rfl rfl rfl rfl rfl rfl rfl rfl rfl rfl rfl rfl rfl rfl rfl rfl rfl rfl rfl rfl rfl⟩
  rcases wk_lk (p := p0) (a := aO) h.1.2.2.1 h.2.1.2.1 with ⟨w1, w2, k, hk, hk4, hk1, hkc⟩ | ⟨w1, w2⟩
  · have hi : (F_X7_isIn p1 0 1 = 0 ∧ ¬ p1 = 0 ∧ ¬ p1 = 1) ∨ (F_X7_isIn p1 0 1 = 1 ∧ (p1 = 0 ∨ p1 = 1)) := in01 p1
    rcases hi with ⟨c0, c1, c2⟩ | ⟨c0, c1⟩
    · exact key (-2) (by decide) (by decide) (by rw [ez]; unfold F_X6_rest; dsimp only; rw [if_pos w1, if_neg c1, if_neg c2]) (by rw [ey]; unfold F_X7_rest; dsimp only; rw [if_neg w2, if_pos c0])
    · have hX : ∀ (v : Int32 × Int32 × Int32 × Int32 × Int32) (x41 x42 x43 : Int32) (x38 x39 x40 : Nat → Int32), CX qS nS gB (mT oO k v x41 x42 x43) (va_up (va_up (va_up aO 38 x38) 39 x39) 40 x40) k := fun v x41 x42 x43 x38 x39 x40 => ⟨⟨⟨h.1.1.1, h.1.1.2.1, fun j hj => h.1.1.2.2 j hj⟩, h.1.2.1.1, h.2.1, hk1, rfl, h.2.2.2.2.2.1.2⟩, h.1.2.1.2, h.2.2.2.2.2.1.1⟩
      obtain ⟨b, -, -, -, -, hG⟩ := mo_INV h hk1 bR cR
      obtain ⟨G, eG⟩ : ∃ G, G = F_X7_findMost (mS oO k (aO 8 k, aO 9 k, aO 10 k, aO 11 k, aO 12 k)) aO := ⟨_, rfl⟩
      have hmf := mf_eq hk4 eG
      obtain ⟨g1, -⟩ := hG G eG
      obtain ⟨w, a1, a2⟩ := rs_L (M := oM) (nC := nC) (wW := wW) (b0 := bR) (c0 := cR) (fK0 := fK) (fY := fY) (p1 := p1) hk4 hX (h.rv hk1) (h.dm hk1) 9 1 rfl (Nat.le_refl 1) ((((9 : Int32).toInt + 1 - (1 : Int32).toInt).toNat) + 1) ((((10 : Int32).toInt - (1 : Int32).toInt).toNat) + 1) (F_X4_greatest bR cR qS nS gB (LP k) 1000000).2.1 (F_X4_greatest bR cR qS nS gB (LP k) 1000000).2.2 fK G.2.2.2.2.2.2.2.2.2.1 G.2.2.2.2.2.2.2.2.2.2.1 G.2.2.2.2.2.2.2.2.2.2.2 (nI k) G.2.1 G.2.2.1 G.2.2.2.1 G.2.2.2.2.1 G.2.2.2.2.2.1 G.2.2.2.2.2.2.1 G.2.2.2.2.2.2.2.1 G.2.2.2.2.2.2.2.2.1 0 G.1 (by decide) (by decide)
      have e1 : z = F_X6_rest_L48 oM nC wW qS nS gB bR cR fK fY LP (nI k) p1 ((((9 : Int32).toInt + 1 - (1 : Int32).toInt).toNat) + 1) (F_X4_greatest bR cR qS nS gB (LP k) 1000000).2.1 (F_X4_greatest bR cR qS nS gB (LP k) 1000000).2.2 fK 0 G.1 (nI 1) := by
        rw [ez]; unfold F_X6_rest F_X6_mostOf; dsimp only; rw [if_pos w1, hkc, g1, ← hk]
        rcases c1 with c | c
        · rw [if_pos c]; rfl
        · rw [if_neg (show ¬ p1 = 0 by rw [c]; decide), if_pos c, rs_cx]; rfl
      have e2 : y = F_X7_rest_L42 oO aO (nI k) p1 ((((10 : Int32).toInt - (1 : Int32).toInt).toNat) + 1) G.2.2.2.2.2.2.2.2.2.1 G.2.2.2.2.2.2.2.2.2.2.1 G.2.2.2.2.2.2.2.2.2.2.2 (nI k) G.2.1 G.2.2.1 G.2.2.2.1 G.2.2.2.2.1 G.2.2.2.2.2.1 G.2.2.2.2.2.2.1 G.2.2.2.2.2.2.2.1 G.2.2.2.2.2.2.2.2.1 0 G.1 (nI 1) := by
        rw [ey]; unfold F_X7_rest; dsimp only; rw [if_neg w2, if_neg (show ¬ F_X7_isIn p1 0 1 = 0 by rw [c0]; decide), hk, hmf]; rfl
      rw [← e1, ← e2] at w
      rw [← e1] at a1
      rw [← e2] at a2
      clear e1 e2 ez ey key
      refine ⟨w, h.cg (?_ : rY _ _) rfl rfl rfl rfl rfl rfl rfl rfl rfl rfl rfl rfl rfl rfl rfl rfl rfl rfl rfl rfl rfl rfl rfl rfl rfl rfl⟩
      rw [a1]
      show rY fY y.2.2.2.2.2.2.2.2.2.2.1
      rw [a2]
      exact h.2.2.1
  · exact key (-1) (by decide) (by decide) (by rw [ez]; unfold F_X6_rest; dsimp only; rw [if_neg w1]) (by rw [ey]; unfold F_X7_rest; dsimp only; rw [if_pos w2])
