/-! chance: a row walked with less time -/
theorem wi_L {M : Nat → Int32} {nC : Int32} {q : Nat → Nat → Int32} {n : Int32} {gB gT0 fK0 fZ fQ g1 : Nat → Int32} {o : Nat → Int32} {a : Nat → Nat → Int32} {k T : Nat} {p : Int32} {o1 : Int32 × Int32 × Int32 × Int32 × Int32 × Int32} (h1 : o1.1 = nI k) (hX : ∀ v, CY q n (upd g1 4 p) (upd (mS o k v) 36 p) a k) (hp : 0 ≤ p.toInt ∧ p.toInt ≤ 20) (hM : M 8 = nI T) (ho : o 45 = nI T) (hT : T ≤ 12) (hZ : ∀ j, j < T → fZ j = a 44 j ∧ 0 ≤ (a 44 j).toInt ∧ (a 44 j).toInt < 4) : ∀ (m i : Nat), i + m = T → ∀ (f1 f2 : Nat) (f : Nat → Int32) (v : Int32 × Int32 × Int32 × Int32 × Int32), m < f1 → m < f2 → rV f a k v → dM v →
    (F_X6_worthByRow_L32 M nC q n gB gT0 fK0 fZ fQ p g1 f1 f (nI i)).1 = (F_X7_worthIfSooner_L12 o a (nI k) p o1 f2 v.1 v.2.1 v.2.2.1 v.2.2.2.1 v.2.2.2.2 (nI i)).1 ∧ (F_X6_worthByRow_L32 M nC q n gB gT0 fK0 fZ fQ p g1 f1 f (nI i)).2.1 = upd g1 4 p ∧ (F_X7_worthIfSooner_L12 o a (nI k) p o1 f2 v.1 v.2.1 v.2.2.1 v.2.2.2.1 v.2.2.2.2 (nI i)).2.2.2.2.2.2.2 = 0 ∧ (0 ≤ (F_X7_worthIfSooner_L12 o a (nI k) p o1 f2 v.1 v.2.1 v.2.2.1 v.2.2.2.1 v.2.2.2.2 (nI i)).1.toInt ∧ (F_X7_worthIfSooner_L12 o a (nI k) p o1 f2 v.1 v.2.1 v.2.2.1 v.2.2.2.1 v.2.2.2.2 (nI i)).1.toInt ≤ 800) := by
  intro m
  induction m with
  | zero =>
    intro i hi f1 f2 f v hf1 hf2 V D
    match f1, f2, hf1, hf2 with
    | f1 + 1, f2 + 1, _, _ =>
      rw [F_X6_worthByRow_L32, if_pos (show M 8 ≤ nI i by rw [hM]; exact nI_le (by omega) (by omega)), F_X7_worthIfSooner_L12, if_pos (show o 45 ≤ nI i by rw [ho]; exact nI_le (by omega) (by omega)), h1]
      have hx := hX v
      have h6 : f 6 = v.2.2.2.1 := V.2.2.2.2.2.2.1
      have hR : rS q n (upd (mS o k v) 36 0) a := ⟨hx.1.1, hx.1.2.1, fun j hj => hx.1.2.2 j hj⟩
      have hw : F_X5_worthOfBits q n (f 6) = F_X7_worthOfAll (upd (mS o k v) 36 0) a v.2.2.2.1 := by rw [h6]; exact p_worths hR
      have hD : DR (upd (mS o k v) 36 0) a := hx.2.2.1
      have hb := (s_b hD.ok.s v.2.2.2.1).1
      rw [← va_eq hD.ok] at hb
      exact ⟨hw, rfl, rfl, hb⟩
  | succ m ih =>
    intro i hi f1 f2 f v hf1 hf2 V D
    match f1, f2, hf1, hf2 with
    | f1 + 1, f2 + 1, hf1, hf2 =>
      have hl1 : ¬ M 8 ≤ nI i := by rw [hM]; exact nI_ge (by omega) (by omega)
      have hl2 : ¬ o 45 ≤ nI i := by rw [ho]; exact nI_ge (by omega) (by omega)
      obtain ⟨z1, z2⟩ := hZ i (by omega)
      have X := hX v
      have hdv : 0 ≤ v.2.2.1.toInt ∧ v.2.2.1.toInt ≤ 9 := by
        have d1 := D.1
        have d2 : (v.2.2.2.2).toInt ≤ 1 := by rcases D.2.2.1 with e | e <;> rw [e] <;> decide
        omega
      have hsec := D.2.2.2
      have hT' : ∀ (j : Nat) (m : Int32), (j : Int) < ((upd (mS o k v) 36 p) 13).toInt → (m = (upd (mS o k v) 36 p) 33 ∨ m = (upd (mS o k v) 36 p) 33 + 1) → ((upd (mS o k v) 36 p) 31 + F_X7_takesOf (upd (mS o k v) 36 p) a (nI j) ((upd (mS o k v) 36 p) 30) ≤ F_X0_turnsAt (upd g1 4 p) m ↔ ¬ (F_X7_turnsFor (upd (mS o k v) 36 p) a m - (upd (mS o k v) 36 p) 36 < (upd (mS o k v) 36 p) 31 + F_X7_takesOf (upd (mS o k v) 36 p) a (nI j) ((upd (mS o k v) 36 p) 30) ∨ (upd (mS o k v) 36 p) 37 < (upd (mS o k v) 36 p) 31 + F_X7_takesOf (upd (mS o k v) 36 p) a (nI j) ((upd (mS o k v) 36 p) 30))) := by
        intro j mm hj hm
        have ht := bo_tk X hj
        have hmm : 0 ≤ mm.toInt ∧ mm.toInt ≤ 20 := by
          rcases hm with e | e
          · rw [e]; show 0 ≤ v.2.2.1.toInt ∧ v.2.2.1.toInt ≤ 20; omega
          · rw [e]
            show 0 ≤ (v.2.2.1 + 1).toInt ∧ (v.2.2.1 + 1).toInt ≤ 20
            rw [i_add (x := v.2.2.1 + 1) rfl (by rw [show (1 : Int32).toInt = 1 from rfl]; omega) (by rw [show (1 : Int32).toInt = 1 from rfl]; omega), show (1 : Int32).toInt = 1 from rfl]
            omega
        have h31 : ((upd (mS o k v) 36 p) 31).toInt = v.1.toInt := rfl
        refine ta_eq X.2.1 X.2.2.1.2.2.2.1 rfl hp X.2.2.2.2.2 hmm ?_
        rw [i_add (x := (upd (mS o k v) 36 p) 31 + F_X7_takesOf (upd (mS o k v) 36 p) a (nI j) ((upd (mS o k v) 36 p) 30)) rfl (by omega) (by omega)]
        omega
      rcases ro_gen (c := a 44 i) X V D hT' z2 with ⟨r1, r2⟩ | ⟨j, hj, h35, hbt, r2, r1, rV', -⟩
      · have e1 : F_X6_worthByRow_L32 M nC q n gB gT0 fK0 fZ fQ p g1 (f1 + 1) f (nI i) = F_X6_worthByRow_L32 M nC q n gB gT0 fK0 fZ fQ p g1 f1 f (nI (i + 1)) := by
          rw [F_X6_worthByRow_L32, if_neg hl1]
          dsimp only
          rw [q_at (by omega) (by omega), z1, r1, nI_1]
        have e2 : F_X7_worthIfSooner_L12 o a (nI k) p o1 (f2 + 1) v.1 v.2.1 v.2.2.1 v.2.2.2.1 v.2.2.2.2 (nI i) = F_X7_worthIfSooner_L12 o a (nI k) p o1 f2 v.1 v.2.1 v.2.2.1 v.2.2.2.1 v.2.2.2.2 (nI (i + 1)) := by
          have r2' : F_X7_firstIn (upd (upd (upd (upd (upd (upd (upd o 30 (nI k)) 31 v.1) 32 v.2.1) 33 v.2.2.1) 34 v.2.2.2.1) 35 v.2.2.2.2) 36 p) a (a 44 i) = -9 := r2
          rw [F_X7_worthIfSooner_L12, if_neg hl2]
          dsimp only
          rw [nI_clamp (by omega), h1, r2', if_pos (show (-9 : Int32) < 0 by decide), nI_1]
        rw [e1, e2]
        exact ih (i + 1) (by omega) f1 f2 f v (by omega) (by omega) V D
      · have hD' := rd_dM X D (show 0 ≤ ((upd (mS o k v) 36 p) 36).toInt ∧ ((upd (mS o k v) 36 p) 36).toInt ≤ 1000 from ⟨hp.1, Int.le_trans hp.2 (by decide)⟩) hj h35 hbt
        obtain ⟨Y, eY⟩ : ∃ Y, Y = F_X7_reads (upd (mS o k v) 36 p) a (nI j) := ⟨_, rfl⟩
        rw [← eY] at rV' hD' r1
        have e1 : F_X6_worthByRow_L32 M nC q n gB gT0 fK0 fZ fQ p g1 (f1 + 1) f (nI i) = F_X6_worthByRow_L32 M nC q n gB gT0 fK0 fZ fQ p g1 f1 (F_X2_readOn f q n (upd g1 4 p) (a 44 i)).2 (nI (i + 1)) := by
          rw [F_X6_worthByRow_L32, if_neg hl1]
          dsimp only
          rw [q_at (by omega) (by omega), z1, nI_1]
        have h8 := X.2.2.1.1
        have e2 : F_X7_worthIfSooner_L12 o a (nI k) p o1 (f2 + 1) v.1 v.2.1 v.2.2.1 v.2.2.2.1 v.2.2.2.2 (nI i) = F_X7_worthIfSooner_L12 o a (nI k) p o1 f2 Y.1 Y.2.1 Y.2.2.1 Y.2.2.2.1 Y.2.2.2.2 (nI (i + 1)) := by
          have r2' : F_X7_firstIn (upd (upd (upd (upd (upd (upd (upd o 30 (nI k)) 31 v.1) 32 v.2.1) 33 v.2.2.1) 34 v.2.2.2.1) 35 v.2.2.2.2) 36 p) a (a 44 i) = nI j := r2
          rw [F_X7_worthIfSooner_L12, if_neg hl2]
          dsimp only
          rw [nI_clamp (by omega), h1, r2', if_neg (nI_nl0 (by omega)), nI_1, eY]
          rfl
        rw [e1, e2]
        exact ih (i + 1) (by omega) f1 f2 _ Y (by omega) (by omega) rV' hD'
theorem hc_L {M : Nat → Int32} {fZ : Nat → Int32} {o : Nat → Int32} {a : Nat → Nat → Int32} {T : Nat} (hM : M 8 = nI T) (ho : o 45 = nI T) (hT : T ≤ 12) (hZ : ∀ j, j < T → fZ j = a 44 j ∧ 0 ≤ (a 44 j).toInt ∧ (a 44 j).toInt ≤ 9) : ∀ (m i : Nat), i + m = T → ∀ (f1 f2 : Nat), m < f1 → m < f2 → (F_X6_rowHasNoColumn_L2 M fZ f1 (nI i) = 0 ∧ F_X7_areColumns_L2 o a f2 (nI i) = 1 ∧ ∀ j, i ≤ j → j < T → (a 44 j).toInt < 4) ∨ (F_X6_rowHasNoColumn_L2 M fZ f1 (nI i) = 1 ∧ F_X7_areColumns_L2 o a f2 (nI i) = 0) := by
  intro m
  induction m with
  | zero =>
    intro i hi f1 f2 hf1 hf2
    match f1, f2, hf1, hf2 with
    | f1 + 1, f2 + 1, _, _ =>
      rw [F_X6_rowHasNoColumn_L2, F_X7_areColumns_L2, if_pos (show M 8 ≤ nI i by rw [hM]; exact nI_le (by omega) (by omega)), if_pos (show o 45 ≤ nI i by rw [ho]; exact nI_le (by omega) (by omega))]
      exact Or.inl ⟨rfl, rfl, fun j h1 h2 => by omega⟩
  | succ m ih =>
    intro i hi f1 f2 hf1 hf2
    match f1, f2, hf1, hf2 with
    | f1 + 1, f2 + 1, hf1, hf2 =>
      obtain ⟨z1, -⟩ := hZ i (by omega)
      rw [F_X6_rowHasNoColumn_L2, F_X7_areColumns_L2, if_neg (show ¬ M 8 ≤ nI i by rw [hM]; exact nI_ge (by omega) (by omega)), if_neg (show ¬ o 45 ≤ nI i by rw [ho]; exact nI_ge (by omega) (by omega))]
      dsimp only
      rw [q_at (by omega) (by omega), z1, nI_clamp (by omega), nI_1]
      by_cases c : a 44 i < 4
      · rw [if_pos c, if_pos c]
        have c4 := i_lt c
        rw [show (4 : Int32).toInt = 4 from rfl] at c4
        rcases ih (i + 1) (by omega) f1 f2 (by omega) (by omega) with ⟨h1, h2, h3⟩ | h
        · exact Or.inl ⟨h1, h2, fun j g1 g2 => by
            by_cases e : j = i
            · rw [e]; exact c4
            · exact h3 j (by omega) g2⟩
        · exact Or.inr h
      · rw [if_neg c, if_neg c]; exact Or.inr ⟨rfl, rfl⟩
theorem ch_L {M : Nat → Int32} {nC : Int32} {wW : Nat → Nat} {q : Nat → Nat → Int32} {n : Int32} {gB gT0 fK0 fZ fY : Nat → Int32} {LP : Nat → Nat → Int32} {o : Nat → Int32} {a : Nat → Nat → Int32} {k T P : Nat} {p2 r r' : Int32} (hk4 : k < 4) (hX : ∀ (gT : Nat → Int32) (p : Int32) (x30 x31 x32 x33 x34 x35 x36 : Int32) v, CY q n (upd (F_X0_become gT gB) 4 p) (upd (mS (upd (upd (upd (upd (upd (upd (upd o 30 x30) 31 x31) 32 x32) 33 x33) 34 x34) 35 x35) 36 x36) k v) 36 p) a k) (V : rV (LP k) a k (a 8 k, a 9 k, a 10 k, a 11 k, a 12 k)) (D : dM (a 8 k, a 9 k, a 10 k, a 11 k, a 12 k)) (hM : M 8 = nI T) (ho : o 45 = nI T) (hT : T ≤ 12) (hZ : ∀ j, j < T → fZ j = a 44 j ∧ 0 ≤ (a 44 j).toInt ∧ (a 44 j).toInt < 4) (hP : P ≤ 20) : ∀ (m i : Nat), i + m = P + 1 → ∀ (f1 f2 : Nat) (f gT : Nat → Int32) (x30 x31 x32 x33 x34 x35 x36 : Int32) (A : Nat), m < f1 → m < f2 → A ≤ 800 * i → x36 = 0 →
    (F_X6_chance_L92 M nC wW q n gB gT0 fK0 fZ fY LP (nI k) (nI P) p2 r f1 f gT (nI A) (nI i)).1 = (F_X7_chance_L79 o a (nI k) (nI P) p2 (lN (P + 1)) r' f2 x30 x31 x32 x33 x34 x35 x36 (lN A) (nI i)).1 ∧ (F_X6_chance_L92 M nC wW q n gB gT0 fK0 fZ fY LP (nI k) (nI P) p2 r f1 f gT (nI A) (nI i)).2.2.2 = fY ∧ (F_X7_chance_L79 o a (nI k) (nI P) p2 (lN (P + 1)) r' f2 x30 x31 x32 x33 x34 x35 x36 (lN A) (nI i)).2.2.2.2.2.2.2.1 = 0 ∧ (F_X7_chance_L79 o a (nI k) (nI P) p2 (lN (P + 1)) r' f2 x30 x31 x32 x33 x34 x35 x36 (lN A) (nI i)).2.2.2.2.2.2.2.2 = a 0 := by
  intro m
  induction m with
  | zero =>
    intro i hi f1 f2 f gT x30 x31 x32 x33 x34 x35 x36 A hf1 hf2 hA h36
    match f1, f2, hf1, hf2 with
    | f1 + 1, f2 + 1, _, _ =>
      have hlt : nI P < nI i := by rw [Int32.lt_iff_toInt_lt, nI_toInt (by omega), nI_toInt (by omega)]; omega
      have hg1 : 1 ≤ Nat.gcd A (P + 1) := Nat.gcd_pos_of_pos_right A (by omega)
      have hg2 : Nat.gcd A (P + 1) ≤ P + 1 := Nat.le_of_dvd (by omega) (Nat.gcd_dvd_right A (P + 1))
      have hmax : (if 1 < nI (Nat.gcd A (P + 1)) then nI (Nat.gcd A (P + 1)) else 1) = nI (Nat.gcd A (P + 1)) := by
        by_cases c : 1 < nI (Nat.gcd A (P + 1))
        · rw [if_pos c]
        · rw [if_neg c]
          rw [Int32.lt_iff_toInt_lt, nI_toInt (by omega), show (1 : Int32).toInt = 1 from rfl] at c
          rw [show Nat.gcd A (P + 1) = 1 by omega]
          rfl
      have hq1 : A / Nat.gcd A (P + 1) ≤ A := Nat.div_le_self _ _
      have hq2 : (P + 1) / Nat.gcd A (P + 1) ≤ P + 1 := Nat.div_le_self _ _
      rw [F_X6_chance_L92, F_X7_chance_L79, if_pos hlt, if_pos hlt]
      dsimp only
      rw [nI_1, cd_ok (by omega) (by omega) (by omega), hmax, pk_div (by omega) (by omega) (by omega), pk_div (by omega) (by omega) (by omega), nI_l (by omega), nI_l (by omega), eu_ok (by omega) (by omega) (by omega), lN_div (by omega) (by omega) (by omega), lN_div (by omega) (by omega) (by omega)]
      by_cases c : p2 = 0
      · rw [if_pos c, if_pos c]; exact ⟨rfl, rfl, h36, rfl⟩
      · rw [if_neg c, if_neg c]; exact ⟨rfl, rfl, h36, rfl⟩
  | succ m ih =>
    intro i hi f1 f2 f gT x30 x31 x32 x33 x34 x35 x36 A hf1 hf2 hA h36
    match f1, f2, hf1, hf2 with
    | f1 + 1, f2 + 1, hf1, hf2 =>
      have hlt : ¬ nI P < nI i := by rw [Int32.lt_iff_toInt_lt, nI_toInt (by omega), nI_toInt (by omega)]; omega
      obtain ⟨w1, w2, w3, w4⟩ := wi_L (M := M) (nC := nC) (gB := gB) (gT0 := gT) (fK0 := f) (fZ := fZ) (fQ := LP k) (g1 := F_X0_become gT gB) (o := (upd (upd (upd (upd (upd (upd (upd o 30 x30) 31 x31) 32 x32) 33 x33) 34 x34) 35 x35) 36 x36)) (p := nI i) (o1 := (nI k, a 8 k, a 9 k, a 10 k, a 11 k, a 12 k)) rfl (fun v => hX gT (nI i) x30 x31 x32 x33 x34 x35 x36 v) (by rw [nI_toInt (by omega)]; omega) hM ho hT hZ T 0 (by omega) ((((M 8).toInt - (0 : Int32).toInt).toNat) + 1) (((((upd (upd (upd (upd (upd (upd (upd o 30 x30) 31 x31) 32 x32) 33 x33) 34 x34) 35 x35) 36 x36) 45).toInt - (0 : Int32).toInt).toNat) + 1) (F_X2_become f (LP k)) (a 8 k, a 9 k, a 10 k, a 11 k, a 12 k) (by rw [hM, nI_toInt (by omega), show (0 : Int32).toInt = 0 from rfl]; omega) (by show T < (((o 45).toInt - (0 : Int32).toInt).toNat) + 1; rw [ho, nI_toInt (by omega), show (0 : Int32).toInt = 0 from rfl]; omega) V D
      obtain ⟨Z, eZ⟩ : ∃ Z, Z = F_X6_worthByRow M nC q n gB gT f fZ (LP k) (nI i) := ⟨_, rfl⟩
      obtain ⟨W, eW⟩ : ∃ W, W = F_X7_worthIfSooner (upd (upd (upd (upd (upd (upd (upd o 30 x30) 31 x31) 32 x32) 33 x33) 34 x34) 35 x35) 36 x36) a (nI k) (nI i) := ⟨_, rfl⟩
      have eZ' : Z = F_X6_worthByRow_L32 M nC q n gB gT f fZ (LP k) (nI i) (F_X0_become gT gB) ((((M 8).toInt - (0 : Int32).toInt).toNat) + 1) (F_X2_become f (LP k)) (nI 0) := eZ
      have eW' : W = F_X7_worthIfSooner_L12 (upd (upd (upd (upd (upd (upd (upd o 30 x30) 31 x31) 32 x32) 33 x33) 34 x34) 35 x35) 36 x36) a (nI k) (nI i) (nI k, a 8 k, a 9 k, a 10 k, a 11 k, a 12 k) (((((upd (upd (upd (upd (upd (upd (upd o 30 x30) 31 x31) 32 x32) 33 x33) 34 x34) 35 x35) 36 x36) 45).toInt - (0 : Int32).toInt).toNat) + 1) (a 8 k) (a 9 k) (a 10 k) (a 11 k) (a 12 k) (nI 0) := by
        rw [eW]
        unfold F_X7_worthIfSooner
        dsimp only
        rw [mi_eq hk4]
        rfl
      rw [← eZ', ← eW'] at w1
      rw [← eZ'] at w2
      rw [← eW'] at w3 w4
      obtain ⟨B, hB, eB⟩ : ∃ B : Nat, B ≤ 800 ∧ W.1 = nI B := ⟨W.1.toInt.toNat, by omega, x_nIt w4.1⟩
      have e1 : F_X6_chance_L92 M nC wW q n gB gT0 fK0 fZ fY LP (nI k) (nI P) p2 r (f1 + 1) f gT (nI A) (nI i) = F_X6_chance_L92 M nC wW q n gB gT0 fK0 fZ fY LP (nI k) (nI P) p2 r f1 Z.2.2 Z.2.1 (nI (A + B)) (nI (i + 1)) := by
        rw [F_X6_chance_L92, if_neg hlt]
        dsimp only
        rw [nI_clamp (show k < 2 ^ 31 by omega), ← eZ, w1, eB, nI_add, nI_1]
      have e2 : F_X7_chance_L79 o a (nI k) (nI P) p2 (lN (P + 1)) r' (f2 + 1) x30 x31 x32 x33 x34 x35 x36 (lN A) (nI i) = F_X7_chance_L79 o a (nI k) (nI P) p2 (lN (P + 1)) r' f2 W.2.1 W.2.2.1 W.2.2.2.1 W.2.2.2.2.1 W.2.2.2.2.2.1 W.2.2.2.2.2.2.1 W.2.2.2.2.2.2.2 (lN (A + B)) (nI (i + 1)) := by
        rw [F_X7_chance_L79, if_neg hlt]
        dsimp only
        rw [← eW, eB, nI_l (by omega), lN_add, nI_1]
      rw [e1, e2]
      exact ih (i + 1) (by omega) f1 f2 Z.2.2 Z.2.1 _ _ _ _ _ _ _ (A + B) (by omega) (by omega) (by omega) w3
theorem ch_cb {M : Nat → Int32} {nC : Int32} {wW : Nat → Nat} {q : Nat → Nat → Int32} {n : Int32} {gB gT0 fK0 fZ fY : Nat → Int32} {LP : Nat → Nat → Int32} {p0 p1 p2 r : Int32} : ∀ (f1 : Nat) (f g : Nat → Int32) (s i : Int32), F_X6_chance_L92b M nC wW q n gB gT0 fK0 fZ fY LP p0 p1 p2 r f1 f g s i = F_X6_chance_L92 M nC wW q n gB gT0 fK0 fZ fY LP p0 p1 p2 r f1 f g s i := by
  intro f1
  induction f1 with
  | zero => intro f g s i; rfl
  | succ m ih =>
    intro f g s i
    rw [F_X6_chance_L92b, F_X6_chance_L92]
    simp only [ih]
theorem ch_cc {M : Nat → Int32} {nC : Int32} {wW : Nat → Nat} {q : Nat → Nat → Int32} {n : Int32} {gB gT0 fK0 fZ fY : Nat → Int32} {LP : Nat → Nat → Int32} {p0 p1 p2 r : Int32} : ∀ (f1 : Nat) (f g : Nat → Int32) (s i : Int32), F_X6_chance_L92c M nC wW q n gB gT0 fK0 fZ fY LP p0 p1 p2 r f1 f g s i = F_X6_chance_L92 M nC wW q n gB gT0 fK0 fZ fY LP p0 p1 p2 r f1 f g s i := by
  intro f1
  induction f1 with
  | zero => intro f g s i; rfl
  | succ m ih =>
    intro f g s i
    rw [F_X6_chance_L92c, F_X6_chance_L92]
    simp only [ih]
theorem ch_cd {M : Nat → Int32} {nC : Int32} {wW : Nat → Nat} {q : Nat → Nat → Int32} {n : Int32} {gB gT0 fK0 fZ fY : Nat → Int32} {LP : Nat → Nat → Int32} {p0 p1 p2 r : Int32} : ∀ (f1 : Nat) (f g : Nat → Int32) (s i : Int32), F_X6_chance_L92d M nC wW q n gB gT0 fK0 fZ fY LP p0 p1 p2 r f1 f g s i = F_X6_chance_L92 M nC wW q n gB gT0 fK0 fZ fY LP p0 p1 p2 r f1 f g s i := by
  intro f1
  induction f1 with
  | zero => intro f g s i; rfl
  | succ m ih =>
    intro f g s i
    rw [F_X6_chance_L92d, F_X6_chance_L92]
    simp only [ih]
theorem ch_ce {M : Nat → Int32} {nC : Int32} {wW : Nat → Nat} {q : Nat → Nat → Int32} {n : Int32} {gB gT0 fK0 fZ fY : Nat → Int32} {LP : Nat → Nat → Int32} {p0 p1 p2 r : Int32} : ∀ (f1 : Nat) (f g : Nat → Int32) (s i : Int32), F_X6_chance_L92e M nC wW q n gB gT0 fK0 fZ fY LP p0 p1 p2 r f1 f g s i = F_X6_chance_L92 M nC wW q n gB gT0 fK0 fZ fY LP p0 p1 p2 r f1 f g s i := by
  intro f1
  induction f1 with
  | zero => intro f g s i; rfl
  | succ m ih =>
    intro f g s i
    rw [F_X6_chance_L92e, F_X6_chance_L92]
    simp only [ih]
theorem ch_cf {M : Nat → Int32} {nC : Int32} {wW : Nat → Nat} {q : Nat → Nat → Int32} {n : Int32} {gB gT0 fK0 fZ fY : Nat → Int32} {LP : Nat → Nat → Int32} {p0 p1 p2 r : Int32} : ∀ (f1 : Nat) (f g : Nat → Int32) (s i : Int32), F_X6_chance_L92f M nC wW q n gB gT0 fK0 fZ fY LP p0 p1 p2 r f1 f g s i = F_X6_chance_L92 M nC wW q n gB gT0 fK0 fZ fY LP p0 p1 p2 r f1 f g s i := by
  intro f1
  induction f1 with
  | zero => intro f g s i; rfl
  | succ m ih =>
    intro f g s i
    rw [F_X6_chance_L92f, F_X6_chance_L92]
    simp only [ih]
theorem ch_m {o : Nat → Int32} {a : Nat → Nat → Int32} {p0 p1 p2 r : Int32} {x : Int64} : ∀ (f1 : Nat) (b0 b1 b2 b3 b4 b5 b6 : Int32) (s : Int64) (i : Int32), F_X7_chance_L79b o a p0 p1 p2 x f1 b0 b1 b2 b3 b4 b5 b6 s i = F_X7_chance_L79 o a p0 p1 p2 x r f1 b0 b1 b2 b3 b4 b5 b6 s i := by
  intro f1
  induction f1 with
  | zero => intro b0 b1 b2 b3 b4 b5 b6 s i; rfl
  | succ m ih =>
    intro b0 b1 b2 b3 b4 b5 b6 s i
    rw [F_X7_chance_L79b, F_X7_chance_L79]
    simp only [ih]
