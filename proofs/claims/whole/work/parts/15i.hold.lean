/-! hold, bend -/
def WR (q : Nat → Nat → Int32) (n : Int32) (g : Nat → Int32) (nC : Int32) (L : Nat → Nat → Int32) (o : Nat → Int32) (a : Nat → Nat → Int32) : Prop := SR q n g nC L o a ∧ DR o a ∧ o 36 = 0 ∧ o 37 = 999
theorem WR.scr {q : Nat → Nat → Int32} {n : Int32} {g : Nat → Int32} {nC : Int32} {L : Nat → Nat → Int32} {o : Nat → Int32} {a : Nat → Nat → Int32} (W : WR q n g nC L o a) (x38 x39 x40 : Nat → Int32) (x30 x31 x32 x33 x34 x35 x41 x42 x43 : Int32) : WR q n g nC L (upd (upd (upd (upd (upd (upd (upd (upd (upd o 30 x30) 31 x31) 32 x32) 33 x33) 34 x34) 35 x35) 41 x41) 42 x42) 43 x43) (va_up (va_up (va_up a 38 x38) 39 x39) 40 x40) := ⟨⟨⟨W.1.1.1, W.1.1.2.1, fun j hj => W.1.1.2.2 j hj⟩, W.1.2.1, W.1.2.2.1, fun k hk => W.1.2.2.2 k hk⟩, W.2.1, W.2.2.1, W.2.2.2⟩
theorem WR.mo {q : Nat → Nat → Int32} {n : Int32} {g : Nat → Int32} {nC : Int32} {L : Nat → Nat → Int32} {o : Nat → Int32} {a : Nat → Nat → Int32} (W : WR q n g nC L o a) {k : Nat} (hk : (k : Int) < (o 14).toInt) (bR : Nat → Nat → Int32) (cR : Nat → Int32) {G : Int32 × Int32 × Int32 × Int32 × Int32 × Int32 × Int32 × Int32 × Int32 × (Nat → Int32) × (Nat → Int32) × (Nat → Int32)} (eG : G = F_X7_findMost (mS o k (a 8 k, a 9 k, a 10 k, a 11 k, a 12 k)) a) : G.1 = (F_X4_greatest bR cR q n g (L k) 1000000).1 ∧ (0 ≤ G.1.toInt ∧ G.1.toInt ≤ 800) ∧ ∃ b : SB, s_bi (rP (mS o k (a 8 k, a 9 k, a 10 k, a 11 k, a 12 k)) a) (a 11 k) b ∧ cB (F_X4_greatest bR cR q n g (L k) 1000000).2.1 (F_X4_greatest bR cR q n g (L k) 1000000).2.2 b ∧ RB G.1 G.2.2.2.2.2.2.2.1 G.2.2.2.2.2.2.2.2.1 G.2.2.2.2.2.2.2.2.2.2.2 b := by
  obtain ⟨b, -, b2, b3, b4, b5, b6, b7⟩ := mo_gen (S := mS o k (a 8 k, a 9 k, a 10 k, a 11 k, a 12 k)) (f := L k) W.1.1 W.1.2.1.1 W.1.2.1.2 W.2.1 hk rfl (W.1.2.2.2 k hk) (dM_of (W.2.1.2.2.2.2 k hk)) (mo_hO (S := mS o k (a 8 k, a 9 k, a 10 k, a 11 k, a 12 k)) W.2.1 (dM_of (W.2.1.2.2.2.2 k hk)) W.2.2.1 W.2.2.2) bR cR
  subst eG
  refine ⟨b6, ⟨by rw [b6, b4]; exact b3, ?_⟩, b, b2, b5, b7⟩
  rw [b6, b4, b2.2.1]
  exact (s_b (DR.ok (o := mS o k (a 8 k, a 9 k, a 10 k, a 11 k, a 12 k)) W.2.1).s _).1.2
theorem mt_L {M : Nat → Int32} {nC : Int32} {wW : Nat → Nat} {q : Nat → Nat → Int32} {n : Int32} {g : Nat → Int32} {b0 : Nat → Nat → Int32} {c0 : Nat → Int32} {LP : Nat → Nat → Int32} {o : Nat → Int32} {a : Nat → Nat → Int32} {N : Nat} (W : WR q n g nC LP o a) (hN : (o 14).toInt = N) : ∀ (m i : Nat), i + m = N → ∀ (f1 f2 : Nat) (b : Nat → Nat → Int32) (c : Nat → Int32) (x38 x39 x40 : Nat → Int32) (x30 x31 x32 x33 x34 x35 x41 x42 x43 : Int32) (v : Int32), m < f1 → m < f2 → 0 ≤ v.toInt → v.toInt ≤ 800 * i → (F_X6_mostTogether_L4 M nC wW q n b0 c0 g LP f1 b c v (nI i)).1 = (F_X7_mostOfAll_L4 o a f2 x38 x39 x40 x30 x31 x32 x33 x34 x35 x41 x42 x43 v (nI i)).1 ∧ 0 ≤ (F_X7_mostOfAll_L4 o a f2 x38 x39 x40 x30 x31 x32 x33 x34 x35 x41 x42 x43 v (nI i)).1.toInt ∧ (F_X7_mostOfAll_L4 o a f2 x38 x39 x40 x30 x31 x32 x33 x34 x35 x41 x42 x43 v (nI i)).1.toInt ≤ 800 * N := by
  have h4 := W.2.1.2.1
  intro m
  induction m with
  | zero =>
    intro i hi f1 f2 b c x38 x39 x40 x30 x31 x32 x33 x34 x35 x41 x42 x43 v hf1 hf2 v0 v1
    match f1, f2, hf1, hf2 with
    | f1 + 1, f2 + 1, _, _ =>
      rw [F_X6_mostTogether_L4, F_X7_mostOfAll_L4, if_pos (show nC ≤ nI i by rw [W.1.2.2.1, Int32.le_iff_toInt_le, nI_toInt (by omega)]; omega), if_pos (show o 14 ≤ nI i by rw [Int32.le_iff_toInt_le, nI_toInt (by omega)]; omega)]
      exact ⟨rfl, v0, by have : i = N := by omega
                         rw [← this]; exact v1⟩
  | succ m ih =>
    intro i hi f1 f2 b c x38 x39 x40 x30 x31 x32 x33 x34 x35 x41 x42 x43 v hf1 hf2 v0 v1
    match f1, f2, hf1, hf2 with
    | f1 + 1, f2 + 1, hf1, hf2 =>
      obtain ⟨G, eG⟩ : ∃ G, G = F_X7_findMost (mS (upd (upd (upd (upd (upd (upd (upd (upd (upd o 30 x30) 31 x31) 32 x32) 33 x33) 34 x34) 35 x35) 41 x41) 42 x42) 43 x43) i ((va_up (va_up (va_up a 38 x38) 39 x39) 40 x40) 8 i, (va_up (va_up (va_up a 38 x38) 39 x39) 40 x40) 9 i, (va_up (va_up (va_up a 38 x38) 39 x39) 40 x40) 10 i, (va_up (va_up (va_up a 38 x38) 39 x39) 40 x40) 11 i, (va_up (va_up (va_up a 38 x38) 39 x39) 40 x40) 12 i)) (va_up (va_up (va_up a 38 x38) 39 x39) 40 x40) := ⟨_, rfl⟩
      obtain ⟨g1, g2, -⟩ := (W.scr x38 x39 x40 x30 x31 x32 x33 x34 x35 x41 x42 x43).mo (k := i) (by show (i : Int) < (o 14).toInt; omega) b c eG
      obtain ⟨Z, eZ⟩ : ∃ Z, Z = F_X4_greatest b c q n g (LP i) 1000000 := ⟨_, rfl⟩
      rw [← eZ] at g1
      have e1 : F_X6_mostTogether_L4 M nC wW q n b0 c0 g LP (f1 + 1) b c v (nI i) = F_X6_mostTogether_L4 M nC wW q n b0 c0 g LP f1 Z.2.1 Z.2.2 (v + Z.1) (nI (i + 1)) := by
        rw [F_X6_mostTogether_L4, if_neg (show ¬ nC ≤ nI i by rw [W.1.2.2.1, Int32.le_iff_toInt_le, nI_toInt (by omega)]; omega), if_pos (wk_t (N := N) (by rw [W.1.2.2.1]; exact hN) (by omega) (by omega))]
        dsimp only
        rw [nI_clamp (by omega), nI_1, ← eZ]
      have e2 : F_X7_mostOfAll_L4 o a (f2 + 1) x38 x39 x40 x30 x31 x32 x33 x34 x35 x41 x42 x43 v (nI i) = F_X7_mostOfAll_L4 o a f2 G.2.2.2.2.2.2.2.2.2.1 G.2.2.2.2.2.2.2.2.2.2.1 G.2.2.2.2.2.2.2.2.2.2.2 (nI i) G.2.1 G.2.2.1 G.2.2.2.1 G.2.2.2.2.1 G.2.2.2.2.2.1 G.2.2.2.2.2.2.1 G.2.2.2.2.2.2.2.1 G.2.2.2.2.2.2.2.2.1 (v + G.1) (nI (i + 1)) := by
        rw [F_X7_mostOfAll_L4, if_neg (show ¬ o 14 ≤ nI i by rw [Int32.le_iff_toInt_le, nI_toInt (by omega)]; omega)]
        dsimp only
        rw [mf_eq (by omega) eG, nI_1]
      have hv : (v + G.1).toInt = v.toInt + G.1.toInt := i_add rfl (by omega) (by omega)
      rw [e1, e2, ← g1]
      exact ih (i + 1) (by omega) f1 f2 _ _ _ _ _ _ _ _ _ _ _ _ _ _ _ (by omega) (by omega) (by omega) (by omega)
theorem mt_ok {M : Nat → Int32} {nC : Int32} {wW : Nat → Nat} {q : Nat → Nat → Int32} {n : Int32} {g : Nat → Int32} {LP : Nat → Nat → Int32} {o : Nat → Int32} {a : Nat → Nat → Int32} (W : WR q n g nC LP o a) (b : Nat → Nat → Int32) (c : Nat → Int32) : (F_X6_mostTogether M nC wW q n b c g LP).1 = (F_X7_mostOfAll o a).1 ∧ 0 ≤ (F_X7_mostOfAll o a).1.toInt ∧ (F_X7_mostOfAll o a).1.toInt ≤ 3200 := by
  have h4 := W.2.1.2.1
  have hN : (o 14).toInt = (o 14).toInt.toNat := by omega
  obtain ⟨h1, h2, h3⟩ := mt_L (M := M) (wW := wW) (b0 := b) (c0 := c) W hN (o 14).toInt.toNat 0 (by omega) (((nC.toInt - (0 : Int32).toInt).toNat) + 1) ((((o 14).toInt - (0 : Int32).toInt).toNat) + 1) b c (a 38) (a 39) (a 40) (o 30) (o 31) (o 32) (o 33) (o 34) (o 35) (o 41) (o 42) (o 43) 0 (by rw [W.1.2.2.1, show (0 : Int32).toInt = 0 from rfl]; omega) (by rw [show (0 : Int32).toInt = 0 from rfl]; omega) (by decide) (by decide)
  unfold F_X6_mostTogether F_X7_mostOfAll
  refine ⟨h1, h2, ?_⟩
  have h5 : (F_X7_mostOfAll_L4 o a ((((o 14).toInt - (0 : Int32).toInt).toNat) + 1) (a 38) (a 39) (a 40) (o 30) (o 31) (o 32) (o 33) (o 34) (o 35) (o 41) (o 42) (o 43) 0 (nI 0)).1.toInt ≤ 3200 := by omega
  exact h5
theorem mn_s (i : Nat) : nI i - 1 + 1 = nI (i + 1) - 1 := by rw [← nI_1, Int32.add_sub_cancel, Int32.sub_add_cancel]
theorem hold_L {M : Nat → Int32} {nC : Int32} {wW : Nat → Nat} {q : Nat → Nat → Int32} {n : Int32} {gB : Nat → Int32} {b0 : Nat → Nat → Int32} {c0 gT0 : Nat → Int32} {LP : Nat → Nat → Int32} {o : Nat → Int32} {a : Nat → Nat → Int32} (hW : ∀ (gT : Nat → Int32) (x : Int32), gT 0 = o 15 ∧ gT 1 = o 16 ∧ gT 2 = o 17 ∧ gT 4 = 0 → (-1 ≤ x.toInt ∧ x.toInt ≤ 5) → x.toInt ≤ 1 → WR q n (upd gT 3 x) nC LP (upd o 18 x) a) : ∀ (m i : Nat), i + m = 3 → ∀ (f1 f2 : Nat) (b : Nat → Nat → Int32) (c gT : Nat → Int32) (xo : Int32) (x38 x39 x40 : Nat → Int32) (x30 x31 x32 x33 x34 x35 x41 x42 x43 : Int32) (u v u' v' : Int32), m < f1 → m < f2 → (gT 0 = o 15 ∧ gT 1 = o 16 ∧ gT 2 = o 17 ∧ gT 4 = 0) → ((i = 0 ∧ v = 1000000 ∧ v' = -9) ∨ (1 ≤ i ∧ v = v' ∧ 0 ≤ v'.toInt ∧ v'.toInt ≤ 3200 ∧ u' = u + 1)) → (F_X6_hold_L21 M nC wW q n gB b0 c0 gT0 LP f1 b c gT u v (nI i - 1)).1 = (F_X7_hold_L13 o a f2 x38 x39 x40 xo x30 x31 x32 x33 x34 x35 x41 x42 x43 u' v' (nI i)).1 := by
  intro m
  induction m with
  | zero =>
    intro i hi f1 f2 b c gT xo x38 x39 x40 x30 x31 x32 x33 x34 x35 x41 x42 x43 u v u' v' hf1 hf2 hg hv
    match f1, f2, hf1, hf2 with
    | f1 + 1, f2 + 1, _, _ =>
      have hi3 : i = 3 := by omega
      rw [F_X6_hold_L21, F_X7_hold_L13, if_pos (show (1 : Int32) < nI i - 1 by rw [hi3]; decide), if_pos (show (3 : Int32) ≤ nI i from nI_le (a := 3) (by omega) (by omega))]
      rcases hv with ⟨e, -, -⟩ | ⟨-, -, -, -, e⟩
      · omega
      · exact e.symm
  | succ m ih =>
    intro i hi f1 f2 b c gT xo x38 x39 x40 x30 x31 x32 x33 x34 x35 x41 x42 x43 u v u' v' hf1 hf2 hg hv
    match f1, f2, hf1, hf2 with
    | f1 + 1, f2 + 1, hf1, hf2 =>
      have hx : -1 ≤ (nI i - 1).toInt ∧ (nI i - 1).toInt ≤ 1 := (show ∀ j : Nat, j < 3 → -1 ≤ (nI j - 1).toInt ∧ (nI j - 1).toInt ≤ 1 by decide +kernel) i (by omega)
      have hW' := (hW gT (nI i - 1) hg (by omega) hx.2).scr x38 x39 x40 x30 x31 x32 x33 x34 x35 x41 x42 x43
      obtain ⟨t1, t2, t3⟩ := mt_ok (M := M) (wW := wW) hW' b c
      obtain ⟨T, eT⟩ : ∃ T, T = F_X7_mostOfAll (upd (upd (upd (upd (upd (upd (upd (upd (upd (upd o 18 (nI i - 1)) 30 x30) 31 x31) 32 x32) 33 x33) 34 x34) 35 x35) 41 x41) 42 x42) 43 x43) (va_up (va_up (va_up a 38 x38) 39 x39) 40 x40) := ⟨_, rfl⟩
      obtain ⟨Z, eZ⟩ : ∃ Z, Z = F_X6_mostTogether M nC wW q n b c (upd gT 3 (nI i - 1)) LP := ⟨_, rfl⟩
      rw [← eT, ← eZ] at t1
      rw [← eT] at t2 t3
      have e1 : F_X6_hold_L21 M nC wW q n gB b0 c0 gT0 LP (f1 + 1) b c gT u v (nI i - 1) = if v ≤ Z.1 then F_X6_hold_L21 M nC wW q n gB b0 c0 gT0 LP f1 Z.2.1 Z.2.2 (upd gT 3 (nI i - 1)) u v (nI (i + 1) - 1) else F_X6_hold_L21 M nC wW q n gB b0 c0 gT0 LP f1 Z.2.1 Z.2.2 (upd gT 3 (nI i - 1)) (nI i - 1) Z.1 (nI (i + 1) - 1) := by
        rw [F_X6_hold_L21, if_neg ((show ∀ j : Nat, j < 3 → ¬ (1 : Int32) < nI j - 1 by decide +kernel) i (by omega))]
        dsimp only
        rw [mn_s, ← eZ]
      have e2 : F_X7_hold_L13 o a (f2 + 1) x38 x39 x40 xo x30 x31 x32 x33 x34 x35 x41 x42 x43 u' v' (nI i) = if v' < 0 then F_X7_hold_L13 o a f2 T.2.2.2.2.2.2.2.2.2.2.1 T.2.2.2.2.2.2.2.2.2.2.2.1 T.2.2.2.2.2.2.2.2.2.2.2.2 (nI i - 1) T.2.1 T.2.2.1 T.2.2.2.1 T.2.2.2.2.1 T.2.2.2.2.2.1 T.2.2.2.2.2.2.1 T.2.2.2.2.2.2.2.1 T.2.2.2.2.2.2.2.2.1 T.2.2.2.2.2.2.2.2.2.1 (nI i) T.1 (nI (i + 1)) else if T.1 < v' then F_X7_hold_L13 o a f2 T.2.2.2.2.2.2.2.2.2.2.1 T.2.2.2.2.2.2.2.2.2.2.2.1 T.2.2.2.2.2.2.2.2.2.2.2.2 (nI i - 1) T.2.1 T.2.2.1 T.2.2.2.1 T.2.2.2.2.1 T.2.2.2.2.2.1 T.2.2.2.2.2.2.1 T.2.2.2.2.2.2.2.1 T.2.2.2.2.2.2.2.2.1 T.2.2.2.2.2.2.2.2.2.1 (nI i) T.1 (nI (i + 1)) else F_X7_hold_L13 o a f2 T.2.2.2.2.2.2.2.2.2.2.1 T.2.2.2.2.2.2.2.2.2.2.2.1 T.2.2.2.2.2.2.2.2.2.2.2.2 (nI i - 1) T.2.1 T.2.2.1 T.2.2.2.1 T.2.2.2.2.1 T.2.2.2.2.2.1 T.2.2.2.2.2.2.1 T.2.2.2.2.2.2.2.1 T.2.2.2.2.2.2.2.2.1 T.2.2.2.2.2.2.2.2.2.1 u' v' (nI (i + 1)) := by
        rw [F_X7_hold_L13, if_neg (show ¬ (3 : Int32) ≤ nI i from nI_ge (b := 3) (by omega) (by omega))]
        dsimp only
        rw [nI_1, ← eT]
      have hg' : upd gT 3 (nI i - 1) 0 = o 15 ∧ upd gT 3 (nI i - 1) 1 = o 16 ∧ upd gT 3 (nI i - 1) 2 = o 17 ∧ upd gT 3 (nI i - 1) 4 = 0 := hg
      rw [e1, e2, t1]
      rcases hv with ⟨e, ev, ev'⟩ | ⟨e, ev, h0, h1, eu⟩
      · rw [ev, ev', if_neg (show ¬ (1000000 : Int32) ≤ T.1 by rw [Int32.le_iff_toInt_le, show (1000000 : Int32).toInt = 1000000 from rfl]; omega), if_pos (show (-9 : Int32) < 0 by decide)]
        exact ih (i + 1) (by omega) f1 f2 _ _ _ _ _ _ _ _ _ _ _ _ _ _ _ _ _ _ _ _ (by omega) (by omega) hg' (Or.inr ⟨by omega, rfl, t2, t3, (Int32.sub_add_cancel _ _).symm⟩)
      · rw [ev, if_neg (show ¬ v' < 0 by rw [Int32.lt_iff_toInt_lt, show (0 : Int32).toInt = 0 from rfl]; omega)]
        by_cases d : T.1 < v'
        · rw [if_pos d, if_neg (show ¬ v' ≤ T.1 by rw [Int32.lt_iff_toInt_lt] at d; rw [Int32.le_iff_toInt_le]; omega)]
          exact ih (i + 1) (by omega) f1 f2 _ _ _ _ _ _ _ _ _ _ _ _ _ _ _ _ _ _ _ _ (by omega) (by omega) hg' (Or.inr ⟨by omega, rfl, t2, t3, (Int32.sub_add_cancel _ _).symm⟩)
        · rw [if_neg d, if_pos (show v' ≤ T.1 by rw [Int32.lt_iff_toInt_lt] at d; rw [Int32.le_iff_toInt_le]; omega)]
          exact ih (i + 1) (by omega) f1 f2 _ _ _ _ _ _ _ _ _ _ _ _ _ _ _ _ _ _ _ _ (by omega) (by omega) hg' (Or.inr ⟨by omega, rfl, h0, h1, eu⟩)
theorem bend_L {M : Nat → Int32} {nC : Int32} {wW : Nat → Nat} {q : Nat → Nat → Int32} {n : Int32} {gB : Nat → Int32} {b0 : Nat → Nat → Int32} {c0 gT0 : Nat → Int32} {LP : Nat → Nat → Int32} {o : Nat → Int32} {a : Nat → Nat → Int32} (hW : ∀ (gT : Nat → Int32) (x : Int32), gT 1 = o 16 ∧ gT 2 = o 17 ∧ gT 3 = o 18 ∧ gT 4 = 0 → (-1 ≤ x.toInt ∧ x.toInt ≤ 5) → WR q n (upd gT 0 x) nC LP (upd o 15 x) a) : ∀ (m i : Nat), i + m = 6 → ∀ (f1 f2 : Nat) (b : Nat → Nat → Int32) (c gT : Nat → Int32) (xo : Int32) (x38 x39 x40 : Nat → Int32) (x30 x31 x32 x33 x34 x35 x41 x42 x43 : Int32) (u v u' v' : Int32), m < f1 → m < f2 → (gT 1 = o 16 ∧ gT 2 = o 17 ∧ gT 3 = o 18 ∧ gT 4 = 0) → ((i = 0 ∧ v = 1000000 ∧ v' = -9) ∨ (1 ≤ i ∧ v = v' ∧ 0 ≤ v'.toInt ∧ v'.toInt ≤ 3200 ∧ u' = u)) → (F_X6_bend_L21 M nC wW q n gB b0 c0 gT0 LP f1 b c gT u v (nI i)).1 = (F_X7_bend_L13 o a f2 x38 x39 x40 xo x30 x31 x32 x33 x34 x35 x41 x42 x43 u' v' (nI i)).1 := by
  intro m
  induction m with
  | zero =>
    intro i hi f1 f2 b c gT xo x38 x39 x40 x30 x31 x32 x33 x34 x35 x41 x42 x43 u v u' v' hf1 hf2 hg hv
    match f1, f2, hf1, hf2 with
    | f1 + 1, f2 + 1, _, _ =>
      have hi3 : i = 6 := by omega
      rw [F_X6_bend_L21, F_X7_bend_L13, if_pos (show (6 : Int32) ≤ nI i from nI_le (a := 6) (by omega) (by omega)), if_pos (show (6 : Int32) ≤ nI i from nI_le (a := 6) (by omega) (by omega))]
      rcases hv with ⟨e, -, -⟩ | ⟨-, -, -, -, e⟩
      · omega
      · exact e.symm
  | succ m ih =>
    intro i hi f1 f2 b c gT xo x38 x39 x40 x30 x31 x32 x33 x34 x35 x41 x42 x43 u v u' v' hf1 hf2 hg hv
    match f1, f2, hf1, hf2 with
    | f1 + 1, f2 + 1, hf1, hf2 =>
      have hx : -1 ≤ (nI i).toInt ∧ (nI i).toInt ≤ 5 := (by rw [nI_toInt (by omega)]; omega)
      have hW' := (hW gT (nI i) hg (by omega) ).scr x38 x39 x40 x30 x31 x32 x33 x34 x35 x41 x42 x43
      obtain ⟨t1, t2, t3⟩ := mt_ok (M := M) (wW := wW) hW' b c
      obtain ⟨T, eT⟩ : ∃ T, T = F_X7_mostOfAll (upd (upd (upd (upd (upd (upd (upd (upd (upd (upd o 15 (nI i)) 30 x30) 31 x31) 32 x32) 33 x33) 34 x34) 35 x35) 41 x41) 42 x42) 43 x43) (va_up (va_up (va_up a 38 x38) 39 x39) 40 x40) := ⟨_, rfl⟩
      obtain ⟨Z, eZ⟩ : ∃ Z, Z = F_X6_mostTogether M nC wW q n b c (upd gT 0 (nI i)) LP := ⟨_, rfl⟩
      rw [← eT, ← eZ] at t1
      rw [← eT] at t2 t3
      have e1 : F_X6_bend_L21 M nC wW q n gB b0 c0 gT0 LP (f1 + 1) b c gT u v (nI i) = if v ≤ Z.1 then F_X6_bend_L21 M nC wW q n gB b0 c0 gT0 LP f1 Z.2.1 Z.2.2 (upd gT 0 (nI i)) u v (nI (i + 1)) else F_X6_bend_L21 M nC wW q n gB b0 c0 gT0 LP f1 Z.2.1 Z.2.2 (upd gT 0 (nI i)) (nI i) Z.1 (nI (i + 1)) := by
        rw [F_X6_bend_L21, if_neg (show ¬ (6 : Int32) ≤ nI i from nI_ge (b := 6) (by omega) (by omega))]
        dsimp only
        rw [nI_1, ← eZ]
      have e2 : F_X7_bend_L13 o a (f2 + 1) x38 x39 x40 xo x30 x31 x32 x33 x34 x35 x41 x42 x43 u' v' (nI i) = if v' < 0 then F_X7_bend_L13 o a f2 T.2.2.2.2.2.2.2.2.2.2.1 T.2.2.2.2.2.2.2.2.2.2.2.1 T.2.2.2.2.2.2.2.2.2.2.2.2 (nI i) T.2.1 T.2.2.1 T.2.2.2.1 T.2.2.2.2.1 T.2.2.2.2.2.1 T.2.2.2.2.2.2.1 T.2.2.2.2.2.2.2.1 T.2.2.2.2.2.2.2.2.1 T.2.2.2.2.2.2.2.2.2.1 (nI i) T.1 (nI (i + 1)) else if T.1 < v' then F_X7_bend_L13 o a f2 T.2.2.2.2.2.2.2.2.2.2.1 T.2.2.2.2.2.2.2.2.2.2.2.1 T.2.2.2.2.2.2.2.2.2.2.2.2 (nI i) T.2.1 T.2.2.1 T.2.2.2.1 T.2.2.2.2.1 T.2.2.2.2.2.1 T.2.2.2.2.2.2.1 T.2.2.2.2.2.2.2.1 T.2.2.2.2.2.2.2.2.1 T.2.2.2.2.2.2.2.2.2.1 (nI i) T.1 (nI (i + 1)) else F_X7_bend_L13 o a f2 T.2.2.2.2.2.2.2.2.2.2.1 T.2.2.2.2.2.2.2.2.2.2.2.1 T.2.2.2.2.2.2.2.2.2.2.2.2 (nI i) T.2.1 T.2.2.1 T.2.2.2.1 T.2.2.2.2.1 T.2.2.2.2.2.1 T.2.2.2.2.2.2.1 T.2.2.2.2.2.2.2.1 T.2.2.2.2.2.2.2.2.1 T.2.2.2.2.2.2.2.2.2.1 u' v' (nI (i + 1)) := by
        rw [F_X7_bend_L13, if_neg (show ¬ (6 : Int32) ≤ nI i from nI_ge (b := 6) (by omega) (by omega))]
        dsimp only
        rw [nI_1, ← eT]
      have hg' : upd gT 0 (nI i) 1 = o 16 ∧ upd gT 0 (nI i) 2 = o 17 ∧ upd gT 0 (nI i) 3 = o 18 ∧ upd gT 0 (nI i) 4 = 0 := hg
      rw [e1, e2, t1]
      rcases hv with ⟨e, ev, ev'⟩ | ⟨e, ev, h0, h1, eu⟩
      · rw [ev, ev', if_neg (show ¬ (1000000 : Int32) ≤ T.1 by rw [Int32.le_iff_toInt_le, show (1000000 : Int32).toInt = 1000000 from rfl]; omega), if_pos (show (-9 : Int32) < 0 by decide)]
        exact ih (i + 1) (by omega) f1 f2 _ _ _ _ _ _ _ _ _ _ _ _ _ _ _ _ _ _ _ _ (by omega) (by omega) hg' (Or.inr ⟨by omega, rfl, t2, t3, rfl⟩)
      · rw [ev, if_neg (show ¬ v' < 0 by rw [Int32.lt_iff_toInt_lt, show (0 : Int32).toInt = 0 from rfl]; omega)]
        by_cases d : T.1 < v'
        · rw [if_pos d, if_neg (show ¬ v' ≤ T.1 by rw [Int32.lt_iff_toInt_lt] at d; rw [Int32.le_iff_toInt_le]; omega)]
          exact ih (i + 1) (by omega) f1 f2 _ _ _ _ _ _ _ _ _ _ _ _ _ _ _ _ _ _ _ _ (by omega) (by omega) hg' (Or.inr ⟨by omega, rfl, t2, t3, rfl⟩)
        · rw [if_neg d, if_pos (show v' ≤ T.1 by rw [Int32.lt_iff_toInt_lt] at d; rw [Int32.le_iff_toInt_le]; omega)]
          exact ih (i + 1) (by omega) f1 f2 _ _ _ _ _ _ _ _ _ _ _ _ _ _ _ _ _ _ _ _ (by omega) (by omega) hg' (Or.inr ⟨by omega, rfl, h0, h1, eu⟩)

theorem t_hold {oM : Nat → Int32} {nC : Int32} {qS : Nat → Nat → Int32} {nS : Int32} {gB : Nat → Int32} {LP : Nat → Nat → Int32} {fN : Nat → Int32} {nN : Int32} {fZ : Nat → Int32} {fY : Nat → Int32} {nE : Int32} {qU : Nat → Nat → Int32} {nU : Int32} {gH : Nat → Int32} {LQ : Nat → Nat → Int32} {oO : Nat → Int32} {aO : Nat → Nat → Int32} {wW : Nat → Nat} {bR : Nat → Nat → Int32} {cR : Nat → Int32} {gT : Nat → Int32} (h : INV oM nC qS nS gB LP fN nN fZ fY nE qU nU gH LQ oO aO) {z : Int32 × (Nat → Nat → Int32) × (Nat → Int32) × (Nat → Int32)} (ez : z = F_X6_hold oM nC wW qS nS gB bR cR gT LP) {y : Int32 × Int32 × Int32 × Int32 × Int32 × Int32 × Int32 × Int32 × Int32 × Int32 × (Nat → Int32) × (Nat → Int32) × (Nat → Int32)} (ey : y = F_X7_hold oO aO) : z.1 = y.1 ∧ INV oM nC qS nS gB LP fN nN fZ fY nE qU nU gH LQ (upd (upd (upd (upd (upd (upd (upd (upd (upd oO 30 y.2.1) 31 y.2.2.1) 32 y.2.2.2.1) 33 y.2.2.2.2.1) 34 y.2.2.2.2.2.1) 35 y.2.2.2.2.2.2.1) 41 y.2.2.2.2.2.2.2.1) 42 y.2.2.2.2.2.2.2.2.1) 43 y.2.2.2.2.2.2.2.2.2.1) (va_up (va_up (va_up aO 38 y.2.2.2.2.2.2.2.2.2.2.1) 39 y.2.2.2.2.2.2.2.2.2.2.2.1) 40 y.2.2.2.2.2.2.2.2.2.2.2.2) := by
  have hW : ∀ (g' : Nat → Int32) (x : Int32), g' 0 = oO 15 ∧ g' 1 = oO 16 ∧ g' 2 = oO 17 ∧ g' 4 = 0 → (-1 ≤ x.toInt ∧ x.toInt ≤ 5) → x.toInt ≤ 1 → WR qS nS (upd g' 3 x) nC LP (upd oO 18 x) aO := fun g' x hg hx hx1 => ⟨⟨⟨h.1.1.1, h.1.1.2.1, fun j hj => h.1.1.2.2 j hj⟩, ⟨⟨hg.1, hg.2.1, hg.2.2.1, rfl⟩, hg.2.2.2⟩, h.1.2.2.1, fun k hk => h.1.2.2.2 k hk⟩, ⟨h.2.1.1, h.2.1.2.1, fun l hl => h.2.1.2.2.1 l hl, ⟨h.2.1.2.2.2.1.1, h.2.1.2.2.2.1.2.1, hx.1, hx1⟩, fun k hk => h.2.1.2.2.2.2 k hk⟩, h.2.2.2.2.2.1.1, h.2.2.2.2.2.1.2⟩
  have w := hold_L (M := oM) (wW := wW) (gB := gB) (b0 := bR) (c0 := cR) (gT0 := gT) hW 3 0 rfl ((((1 : Int32).toInt + 1 - ((-1) : Int32).toInt).toNat) + 1) ((((3 : Int32).toInt - (0 : Int32).toInt).toNat) + 1) bR cR (F_X0_become gT gB) (oO 18) (aO 38) (aO 39) (aO 40) (oO 30) (oO 31) (oO 32) (oO 33) (oO 34) (oO 35) (oO 41) (oO 42) (oO 43) 0 1000000 0 (-9) (by decide) (by decide) ⟨h.1.2.1.1.1, h.1.2.1.1.2.1, h.1.2.1.1.2.2.1, h.1.2.1.2⟩ (Or.inl ⟨rfl, rfl, rfl⟩)
  have e1 : z = F_X6_hold_L21 oM nC wW qS nS gB bR cR gT LP ((((1 : Int32).toInt + 1 - ((-1) : Int32).toInt).toNat) + 1) bR cR (F_X0_become gT gB) 0 1000000 (nI 0 - 1) := ez
  have e2 : y = F_X7_hold_L13 oO aO ((((3 : Int32).toInt - (0 : Int32).toInt).toNat) + 1) (aO 38) (aO 39) (aO 40) (oO 18) (oO 30) (oO 31) (oO 32) (oO 33) (oO 34) (oO 35) (oO 41) (oO 42) (oO 43) 0 (-9) (nI 0) := ey
  rw [← e2] at w
  refine ⟨?_, h.cg h.2.2.1 rfl rfl rfl rfl rfl rfl rfl rfl rfl rfl rfl rfl rfl rfl rfl rfl rfl rfl rfl rfl rfl rfl rfl rfl rfl rfl⟩
  rw [e1]
  exact w

theorem t_bend {oM : Nat → Int32} {nC : Int32} {qS : Nat → Nat → Int32} {nS : Int32} {gB : Nat → Int32} {LP : Nat → Nat → Int32} {fN : Nat → Int32} {nN : Int32} {fZ : Nat → Int32} {fY : Nat → Int32} {nE : Int32} {qU : Nat → Nat → Int32} {nU : Int32} {gH : Nat → Int32} {LQ : Nat → Nat → Int32} {oO : Nat → Int32} {aO : Nat → Nat → Int32} {wW : Nat → Nat} {bR : Nat → Nat → Int32} {cR : Nat → Int32} {gT : Nat → Int32} (h : INV oM nC qS nS gB LP fN nN fZ fY nE qU nU gH LQ oO aO) {z : Int32 × (Nat → Nat → Int32) × (Nat → Int32) × (Nat → Int32)} (ez : z = F_X6_bend oM nC wW qS nS gB bR cR gT LP) {y : Int32 × Int32 × Int32 × Int32 × Int32 × Int32 × Int32 × Int32 × Int32 × Int32 × (Nat → Int32) × (Nat → Int32) × (Nat → Int32)} (ey : y = F_X7_bend oO aO) : z.1 = y.1 ∧ INV oM nC qS nS gB LP fN nN fZ fY nE qU nU gH LQ (upd (upd (upd (upd (upd (upd (upd (upd (upd oO 30 y.2.1) 31 y.2.2.1) 32 y.2.2.2.1) 33 y.2.2.2.2.1) 34 y.2.2.2.2.2.1) 35 y.2.2.2.2.2.2.1) 41 y.2.2.2.2.2.2.2.1) 42 y.2.2.2.2.2.2.2.2.1) 43 y.2.2.2.2.2.2.2.2.2.1) (va_up (va_up (va_up aO 38 y.2.2.2.2.2.2.2.2.2.2.1) 39 y.2.2.2.2.2.2.2.2.2.2.2.1) 40 y.2.2.2.2.2.2.2.2.2.2.2.2) := by
  have hW : ∀ (g' : Nat → Int32) (x : Int32), g' 1 = oO 16 ∧ g' 2 = oO 17 ∧ g' 3 = oO 18 ∧ g' 4 = 0 → (-1 ≤ x.toInt ∧ x.toInt ≤ 5) →  WR qS nS (upd g' 0 x) nC LP (upd oO 15 x) aO := fun g' x hg hx  => ⟨⟨⟨h.1.1.1, h.1.1.2.1, fun j hj => h.1.1.2.2 j hj⟩, ⟨⟨rfl, hg.1, hg.2.1, hg.2.2.1⟩, hg.2.2.2⟩, h.1.2.2.1, fun k hk => h.1.2.2.2 k hk⟩, ⟨h.2.1.1, h.2.1.2.1, fun l hl => h.2.1.2.2.1 l hl, h.2.1.2.2.2.1, fun k hk => h.2.1.2.2.2.2 k hk⟩, h.2.2.2.2.2.1.1, h.2.2.2.2.2.1.2⟩
  have w := bend_L (M := oM) (wW := wW) (gB := gB) (b0 := bR) (c0 := cR) (gT0 := gT) hW 6 0 rfl ((((6 : Int32).toInt - (0 : Int32).toInt).toNat) + 1) ((((6 : Int32).toInt - (0 : Int32).toInt).toNat) + 1) bR cR (F_X0_become gT gB) (oO 15) (aO 38) (aO 39) (aO 40) (oO 30) (oO 31) (oO 32) (oO 33) (oO 34) (oO 35) (oO 41) (oO 42) (oO 43) 0 1000000 0 (-9) (by decide) (by decide) ⟨h.1.2.1.1.2.1, h.1.2.1.1.2.2.1, h.1.2.1.1.2.2.2, h.1.2.1.2⟩ (Or.inl ⟨rfl, rfl, rfl⟩)
  have e1 : z = F_X6_bend_L21 oM nC wW qS nS gB bR cR gT LP ((((6 : Int32).toInt - (0 : Int32).toInt).toNat) + 1) bR cR (F_X0_become gT gB) 0 1000000 (nI 0) := ez
  have e2 : y = F_X7_bend_L13 oO aO ((((6 : Int32).toInt - (0 : Int32).toInt).toNat) + 1) (aO 38) (aO 39) (aO 40) (oO 15) (oO 30) (oO 31) (oO 32) (oO 33) (oO 34) (oO 35) (oO 41) (oO 42) (oO 43) 0 (-9) (nI 0) := ey
  rw [← e2] at w
  refine ⟨?_, h.cg h.2.2.1 rfl rfl rfl rfl rfl rfl rfl rfl rfl rfl rfl rfl rfl rfl rfl rfl rfl rfl rfl rfl rfl rfl rfl rfl rfl rfl⟩
  rw [e1]
  exact w
