/-! train: a statement comes -/
theorem isd_b {x : Int32} (h : ¬ F_X1_isDigit x = 0) : 48 ≤ x.toInt ∧ x.toInt ≤ 57 := by
  unfold F_X1_isDigit at h
  by_cases c1 : x < 48
  · rw [if_pos c1] at h; exact absurd rfl h
  · rw [if_neg c1] at h
    by_cases c2 : 57 < x
    · rw [if_pos c2] at h; exact absurd rfl h
    · have h1 := i_nlt c1
      have h2 := i_nlt c2
      rw [show (48 : Int32).toInt = 48 from rfl] at h1
      rw [show (57 : Int32).toInt = 57 from rfl] at h2
      exact ⟨h1, h2⟩
theorem dg_b (fN : Nat → Int32) (nN p : Int32) : 0 ≤ (F_X1_digitAt fN nN p).toInt ∧ (F_X1_digitAt fN nN p).toInt ≤ 9 := by
  unfold F_X1_digitAt
  dsimp only
  by_cases c : F_X1_isDigit (F_X1_letterAt fN nN p) = 0
  · rw [if_pos c]; decide
  · have h := isd_b c
    have l : (48 : Int32).toInt = 48 := rfl
    rw [if_neg c, i_sub (x := F_X1_letterAt fN nN p - 48) rfl (by omega) (by omega)]
    omega
theorem nb_b (fN : Nat → Int32) (nN p : Int32) : 0 ≤ (F_X1_numberAt fN nN p).toInt ∧ (F_X1_numberAt fN nN p).toInt ≤ 99 := by
  have h1 := dg_b fN nN p
  have h2 := dg_b fN nN (p + 1)
  unfold F_X1_numberAt
  dsimp only
  split
  · omega
  · have e : (10 * F_X1_digitAt fN nN p).toInt = 10 * (F_X1_digitAt fN nN p).toInt := by
      rw [Int32.toInt_mul, show (10 : Int32).toInt = 10 from rfl]
      exact fb_bmod0 (by omega) (by omega)
    rw [i_add (x := 10 * F_X1_digitAt fN nN p + F_X1_digitAt fN nN (p + 1)) rfl (by omega) (by omega)]
    omega
theorem tl_b (fN : Nat → Int32) (nN p : Int32) : -1 ≤ (F_X1_tiltAt fN nN p).toInt ∧ (F_X1_tiltAt fN nN p).toInt ≤ 1 := by
  unfold F_X1_tiltAt
  dsimp only
  split
  · decide
  · split
    · decide
    · decide
section SF
variable {fN : Nat → Int32} {nN : Int32} {p0 p1 : Int32}
theorem sf_o {P j f : Nat} {v3 v4 : Int32} (hj : j < 90) (hP : P < 900) (hT : (P : Int) < nN.toInt) (h1 : ¬ F_X1_letterAt fN nN (nI P) = 108) (h2 : ¬ F_X1_letterAt fN nN (nI P) = 107) : F_X1_senseFault_L11 fN nN p0 p1 (f + 1) v3 v4 (nI P) (nI j) = if 8 < v3 then nI P else if 4 < v4 then nI P else if F_X1_isInRange fN nN (nI P) = 0 then nI P else F_X1_senseFault_L11 fN nN p0 p1 f v3 v4 (F_X1_behindStatement fN nN (nI P)) (nI (j + 1)) := by
  rw [F_X1_senseFault_L11, if_neg (show ¬ (96 : Int32) ≤ nI j from nI_ge (b := 96) (by omega) (by omega)), if_neg (nI_nl0 (by omega)), if_neg (show ¬ nN ≤ nI P from fun q => by have := i_le q; rw [nI_toInt (by omega)] at this; omega)]
  dsimp only
  rw [if_neg h1, if_neg h2, Int32.add_zero, Int32.add_zero, nI_1]
theorem sf_l {P j f : Nat} {v3 v4 : Int32} (hj : j < 90) (hP : P < 900) (hT : (P : Int) < nN.toInt) (h1 : F_X1_letterAt fN nN (nI P) = 108) : F_X1_senseFault_L11 fN nN p0 p1 (f + 1) v3 v4 (nI P) (nI j) = if 8 < v3 + 1 then nI P else if 4 < v4 then nI P else if F_X1_isInRange fN nN (nI P) = 0 then nI P else F_X1_senseFault_L11 fN nN p0 p1 f (v3 + 1) v4 (F_X1_behindStatement fN nN (nI P)) (nI (j + 1)) := by
  rw [F_X1_senseFault_L11, if_neg (show ¬ (96 : Int32) ≤ nI j from nI_ge (b := 96) (by omega) (by omega)), if_neg (nI_nl0 (by omega)), if_neg (show ¬ nN ≤ nI P from fun q => by have := i_le q; rw [nI_toInt (by omega)] at this; omega)]
  dsimp only
  rw [if_pos h1, if_neg (show ¬ F_X1_letterAt fN nN (nI P) = 107 by rw [h1]; decide), Int32.add_zero, nI_1]
theorem sf_k {P j f : Nat} {v3 v4 : Int32} (hj : j < 90) (hP : P < 900) (hT : (P : Int) < nN.toInt) (h1 : F_X1_letterAt fN nN (nI P) = 107) : F_X1_senseFault_L11 fN nN p0 p1 (f + 1) v3 v4 (nI P) (nI j) = if 8 < v3 then nI P else if 4 < v4 + 1 then nI P else if F_X1_isInRange fN nN (nI P) = 0 then nI P else F_X1_senseFault_L11 fN nN p0 p1 f v3 (v4 + 1) (F_X1_behindStatement fN nN (nI P)) (nI (j + 1)) := by
  rw [F_X1_senseFault_L11, if_neg (show ¬ (96 : Int32) ≤ nI j from nI_ge (b := 96) (by omega) (by omega)), if_neg (nI_nl0 (by omega)), if_neg (show ¬ nN ≤ nI P from fun q => by have := i_le q; rw [nI_toInt (by omega)] at this; omega)]
  dsimp only
  rw [if_neg (show ¬ F_X1_letterAt fN nN (nI P) = 108 by rw [h1]; decide), if_pos h1, Int32.add_zero, nI_1]
theorem rg_104 {P : Nat} (hl : F_X1_letterAt fN nN (nI P) = 104) : F_X1_isInRange fN nN (nI P) = if 6 ≤ F_X1_digitAt fN nN (nI (P + 1)) then 0 else if F_X1_numberAt fN nN (nI (P + 3)) < 10 then 0 else 1 := by
  unfold F_X1_isInRange
  dsimp only
  rw [hl, if_pos rfl, nI_1, nI_3]
theorem rg_108 {P : Nat} (hl : F_X1_letterAt fN nN (nI P) = 108) : F_X1_isInRange fN nN (nI P) = if 4 ≤ F_X1_digitAt fN nN (nI (P + 1)) then 0 else if 6 ≤ F_X1_digitAt fN nN (nI (P + 2)) then 0 else if F_X1_digitAt fN nN (nI (P + 4)) < 1 then 0 else 1 := by
  unfold F_X1_isInRange
  dsimp only
  rw [hl, if_neg (by decide), if_neg (by decide), if_neg (by decide), if_neg (by decide), if_pos rfl, nI_1, nI_2, nI_4]
theorem rg_107 {P : Nat} (hl : F_X1_letterAt fN nN (nI P) = 107) : F_X1_isInRange fN nN (nI P) = if 3 ≤ F_X1_digitAt fN nN (nI (P + 1)) then 0 else if F_X1_digitAt fN nN (nI (P + 2)) < 1 then 0 else if 4 < F_X1_digitAt fN nN (nI (P + 2)) then 0 else if F_X1_numberAt fN nN (nI (P + 3)) < 1 then 0 else if 30 < F_X1_numberAt fN nN (nI (P + 3)) then 0 else 1 := by
  unfold F_X1_isInRange
  dsimp only
  rw [hl, if_neg (by decide), if_neg (by decide), if_neg (by decide), if_pos rfl, nI_1, nI_2, nI_3]
theorem rg_116 {P : Nat} (hl : F_X1_letterAt fN nN (nI P) = 116) : F_X1_isInRange fN nN (nI P) = 1 := by
  unfold F_X1_isInRange
  dsimp only
  rw [hl, if_neg (by decide), if_neg (by decide), if_neg (by decide), if_neg (by decide), if_neg (by decide)]
end SF
theorem yO_13 (y : Int32 × Int32 × Int32 × Int32 × Int32 × Int32 × Int32 × (Nat → Int32) × (Nat → Int32) × (Nat → Int32) × (Nat → Int32) × (Nat → Int32) × (Nat → Int32) × (Nat → Int32) × (Nat → Int32) × (Nat → Int32) × (Nat → Int32) × (Nat → Int32) × (Nat → Int32)) : yO y 13 = y.2.1 := rfl
theorem yO_14 (y : Int32 × Int32 × Int32 × Int32 × Int32 × Int32 × Int32 × (Nat → Int32) × (Nat → Int32) × (Nat → Int32) × (Nat → Int32) × (Nat → Int32) × (Nat → Int32) × (Nat → Int32) × (Nat → Int32) × (Nat → Int32) × (Nat → Int32) × (Nat → Int32) × (Nat → Int32)) : yO y 14 = y.2.2.1 := rfl
theorem yO_15 (y : Int32 × Int32 × Int32 × Int32 × Int32 × Int32 × Int32 × (Nat → Int32) × (Nat → Int32) × (Nat → Int32) × (Nat → Int32) × (Nat → Int32) × (Nat → Int32) × (Nat → Int32) × (Nat → Int32) × (Nat → Int32) × (Nat → Int32) × (Nat → Int32) × (Nat → Int32)) : yO y 15 = y.2.2.2.1 := rfl
theorem yO_16 (y : Int32 × Int32 × Int32 × Int32 × Int32 × Int32 × Int32 × (Nat → Int32) × (Nat → Int32) × (Nat → Int32) × (Nat → Int32) × (Nat → Int32) × (Nat → Int32) × (Nat → Int32) × (Nat → Int32) × (Nat → Int32) × (Nat → Int32) × (Nat → Int32) × (Nat → Int32)) : yO y 16 = y.2.2.2.2.1 := rfl
theorem yO_17 (y : Int32 × Int32 × Int32 × Int32 × Int32 × Int32 × Int32 × (Nat → Int32) × (Nat → Int32) × (Nat → Int32) × (Nat → Int32) × (Nat → Int32) × (Nat → Int32) × (Nat → Int32) × (Nat → Int32) × (Nat → Int32) × (Nat → Int32) × (Nat → Int32) × (Nat → Int32)) : yO y 17 = y.2.2.2.2.2.1 := rfl
theorem yO_18 (y : Int32 × Int32 × Int32 × Int32 × Int32 × Int32 × Int32 × (Nat → Int32) × (Nat → Int32) × (Nat → Int32) × (Nat → Int32) × (Nat → Int32) × (Nat → Int32) × (Nat → Int32) × (Nat → Int32) × (Nat → Int32) × (Nat → Int32) × (Nat → Int32) × (Nat → Int32)) : yO y 18 = y.2.2.2.2.2.2.1 := rfl
/-- a statement that comes, on both sides -/
def cmc (fN : Nat → Int32) (nN : Int32) (P : Nat) (n nC : Int32) (y : Int32 × Int32 × Int32 × Int32 × Int32 × Int32 × Int32 × (Nat → Int32) × (Nat → Int32) × (Nat → Int32) × (Nat → Int32) × (Nat → Int32) × (Nat → Int32) × (Nat → Int32) × (Nat → Int32) × (Nat → Int32) × (Nat → Int32) × (Nat → Int32) × (Nat → Int32)) (z : Int32 × (Nat → Nat → Int32) × Int32 × (Nat → Int32) × (Nat → Nat → Int32)) : Prop :=
  (y.1 = 0 ∧ ∀ (p0 p1 : Int32) (f j : Nat), j < 90 → F_X1_senseFault_L11 fN nN p0 p1 (f + 1) n nC (nI P) (nI j) = nI P) ∨ (¬ y.1 = 0 ∧ (∀ (p0 p1 : Int32) (f j : Nat), j < 90 → F_X1_senseFault_L11 fN nN p0 p1 (f + 1) n nC (nI P) (nI j) = F_X1_senseFault_L11 fN nN p0 p1 f z.2.2.1 z.1 (F_X1_behindStatement fN nN (nI P)) (nI (j + 1))) ∧ SR z.2.1 z.2.2.1 z.2.2.2.1 z.1 z.2.2.2.2 (yO y) (yA y) ∧ DR (yO y) (yA y) ∧ ∀ j : Nat, j < 4 → z.2.2.2.2 j 7 = 0 ∨ z.2.2.2.2 j 7 = 1)
section CM
variable {fN : Nat → Int32} {nN : Int32} {o : Nat → Int32} {a : Nat → Nat → Int32} {q : Nat → Nat → Int32} {n : Int32} {g : Nat → Int32} {nC : Int32} {L : Nat → Nat → Int32} {wW : Nat → Nat}
theorem l8 {x : Int32} (h : x.toInt ≤ 8) : ¬ 8 < x := fun c => by have := i_lt c; rw [show (8 : Int32).toInt = 8 from rfl] at this; omega
theorem l4 {x : Int32} (h : x.toInt ≤ 4) : ¬ 4 < x := fun c => by have := i_lt c; rw [show (4 : Int32).toInt = 4 from rfl] at this; omega
theorem cm_116 (hS : SR q n g nC L o a) (hD : DR o a) (hz : ∀ j : Nat, j < 4 → L j 7 = 0 ∨ L j 7 = 1) {P i : Nat} (hi : i < 48) (hP : P < 900) (hT : (P : Int) < nN.toInt) (hl : F_X1_letterAt fN nN (nI P) = 116) (h20 : a 20 i = F_X1_letterAt fN nN (nI P)) (hw : a 22 (4 * i) = F_X1_tiltAt fN nN (nI (P + 1))) {y : Int32 × Int32 × Int32 × Int32 × Int32 × Int32 × Int32 × (Nat → Int32) × (Nat → Int32) × (Nat → Int32) × (Nat → Int32) × (Nat → Int32) × (Nat → Int32) × (Nat → Int32) × (Nat → Int32) × (Nat → Int32) × (Nat → Int32) × (Nat → Int32) × (Nat → Int32)} (ey : y = F_X7_comes o a (nI i)) {z : Int32 × (Nat → Nat → Int32) × Int32 × (Nat → Int32) × (Nat → Nat → Int32)} (ez : z = F_X1_bring fN nN nC wW q n g L (nI P)) : cmc fN nN P n nC y z := by
  have hn8 : ¬ 8 < n := l8 (by rw [hS.1.1]; exact hD.1.2)
  have hc4 : ¬ 4 < nC := l4 (by rw [hS.2.2.1]; exact hD.2.1.2)
  have x1 : nI (4 * i) = 4 * nI i := (nI_m4 (by omega)).symm
  have e1 := eX7_comes_5 o a (nI i) (nI (4 * i)) 116 (F_X1_tiltAt fN nN (nI (P + 1))) x1 (by rw [nI_clamp (by omega), h20, hl]) (by rw [nI_clamp (by omega), hw]) (by decide) (by decide) rfl
  have e2 : F_X1_bring fN nN nC wW q n g L (nI P) = (nC, q, n, upd g 3 (F_X1_tiltAt fN nN (nI (P + 1))), L) := by
    unfold F_X1_bring
    dsimp only
    rw [hl, if_neg (by decide), if_neg (by decide), if_pos rfl, nI_1]
  have hsf : ∀ (p0 p1 : Int32) (f j : Nat), j < 90 → F_X1_senseFault_L11 fN nN p0 p1 (f + 1) n nC (nI P) (nI j) = F_X1_senseFault_L11 fN nN p0 p1 f n nC (F_X1_behindStatement fN nN (nI P)) (nI (j + 1)) := fun p0 p1 f j hj => by
    rw [sf_o hj hP hT (by rw [hl]; decide) (by rw [hl]; decide), if_neg hn8, if_neg hc4, rg_116 hl, if_neg (by decide)]
  have bt := tl_b fN nN (nI (P + 1))
  rw [e1] at ey
  rw [e2] at ez
  clear e1 e2 hw
  generalize F_X1_tiltAt fN nN (nI (P + 1)) = d1 at ey ez bt
  subst ey ez
  refine Or.inr ⟨(show ¬ (1 : Int32) = 0 by decide), hsf, ?_, ?_, hz⟩
  · exact ⟨⟨hS.1.1, hS.1.2.1, fun j hj => hS.1.2.2 j hj⟩, ⟨⟨hS.2.1.1.1, hS.2.1.1.2.1, hS.2.1.1.2.2.1, rfl⟩, hS.2.1.2⟩, hS.2.2.1, fun k hk => hS.2.2.2 k hk⟩
  · exact ⟨hD.1, hD.2.1, fun l hl => hD.2.2.1 l hl, ⟨hD.2.2.2.1.1, hD.2.2.2.1.2.1, bt⟩, fun k hk => hD.2.2.2.2 k hk⟩
theorem cm_104 (hS : SR q n g nC L o a) (hD : DR o a) (hz : ∀ j : Nat, j < 4 → L j 7 = 0 ∨ L j 7 = 1) {P i : Nat} (hi : i < 48) (hP : P < 900) (hT : (P : Int) < nN.toInt) (hl : F_X1_letterAt fN nN (nI P) = 104) (h20 : a 20 i = F_X1_letterAt fN nN (nI P)) (hw : a 22 (4 * i) = F_X1_digitAt fN nN (nI (P + 1)) ∧ a 22 (4 * i + 1) = F_X1_digitAt fN nN (nI (P + 2)) ∧ a 22 (4 * i + 2) = F_X1_numberAt fN nN (nI (P + 3))) {y : Int32 × Int32 × Int32 × Int32 × Int32 × Int32 × Int32 × (Nat → Int32) × (Nat → Int32) × (Nat → Int32) × (Nat → Int32) × (Nat → Int32) × (Nat → Int32) × (Nat → Int32) × (Nat → Int32) × (Nat → Int32) × (Nat → Int32) × (Nat → Int32) × (Nat → Int32)} (ey : y = F_X7_comes o a (nI i)) {z : Int32 × (Nat → Nat → Int32) × Int32 × (Nat → Int32) × (Nat → Nat → Int32)} (ez : z = F_X1_bring fN nN nC wW q n g L (nI P)) : cmc fN nN P n nC y z := by
  have hn8 : ¬ 8 < n := l8 (by rw [hS.1.1]; exact hD.1.2)
  have hc4 : ¬ 4 < nC := l4 (by rw [hS.2.2.1]; exact hD.2.1.2)
  have x1 : nI (4 * i) = 4 * nI i := (nI_m4 (by omega)).symm
  by_cases c1 : 6 ≤ F_X1_digitAt fN nN (nI (P + 1))
  · have e1 := eX7_comes_1 o a (nI i) (nI (4 * i)) 104 (F_X1_digitAt fN nN (nI (P + 1))) (nI (4 * i + 1)) (F_X1_digitAt fN nN (nI (P + 2))) (nI (4 * i + 2)) (F_X1_numberAt fN nN (nI (P + 3))) x1 (by rw [nI_clamp (by omega), h20, hl]) (by rw [nI_clamp (by omega), hw.1]) (nI_1 _).symm (by rw [nI_clamp (by omega), hw.2.1]) (nI_2 _).symm (by rw [nI_clamp (by omega), hw.2.2]) rfl c1
    rw [e1] at ey
    subst ey
    refine Or.inl ⟨rfl, fun p0 p1 f j hj => ?_⟩
    rw [sf_o hj hP hT (by rw [hl]; decide) (by rw [hl]; decide), if_neg hn8, if_neg hc4, rg_104 hl, if_pos c1, if_pos rfl]
  · have b3 := nb_b fN nN (nI (P + 3))
    have l9 : (9 : Int32).toInt = 9 := rfl
    have l10 : (10 : Int32).toInt = 10 := rfl
    by_cases c2 : F_X1_numberAt fN nN (nI (P + 3)) ≤ 9
    · have e1 := eX7_comes_2 o a (nI i) (nI (4 * i)) 104 (F_X1_digitAt fN nN (nI (P + 1))) (nI (4 * i + 1)) (F_X1_digitAt fN nN (nI (P + 2))) (nI (4 * i + 2)) (F_X1_numberAt fN nN (nI (P + 3))) x1 (by rw [nI_clamp (by omega), h20, hl]) (by rw [nI_clamp (by omega), hw.1]) (nI_1 _).symm (by rw [nI_clamp (by omega), hw.2.1]) (nI_2 _).symm (by rw [nI_clamp (by omega), hw.2.2]) rfl c1 c2
      rw [e1] at ey
      subst ey
      refine Or.inl ⟨rfl, fun p0 p1 f j hj => ?_⟩
      rw [sf_o hj hP hT (by rw [hl]; decide) (by rw [hl]; decide), if_neg hn8, if_neg hc4, rg_104 hl, if_neg c1, if_pos (show F_X1_numberAt fN nN (nI (P + 3)) < 10 from Int32.lt_iff_toInt_lt.mpr (by have := i_le c2; omega)), if_pos rfl]
    · have e1 := eX7_comes_3 o a (nI i) (nI (4 * i)) 104 (F_X1_digitAt fN nN (nI (P + 1))) (nI (4 * i + 1)) (F_X1_digitAt fN nN (nI (P + 2))) (nI (4 * i + 2)) (F_X1_numberAt fN nN (nI (P + 3))) x1 (by rw [nI_clamp (by omega), h20, hl]) (by rw [nI_clamp (by omega), hw.1]) (nI_1 _).symm (by rw [nI_clamp (by omega), hw.2.1]) (nI_2 _).symm (by rw [nI_clamp (by omega), hw.2.2]) rfl c1 c2
      have e2 : F_X1_bring fN nN nC wW q n g L (nI P) = (nC, q, n, upd (upd (upd g 0 (F_X1_digitAt fN nN (nI (P + 1)))) 1 (F_X1_digitAt fN nN (nI (P + 2)))) 2 (F_X1_numberAt fN nN (nI (P + 3))), L) := by
        unfold F_X1_bring
        dsimp only
        rw [hl, if_pos rfl, nI_1, nI_2, nI_3]
      have c3 := i_nle c2
      have hsf : ∀ (p0 p1 : Int32) (f j : Nat), j < 90 → F_X1_senseFault_L11 fN nN p0 p1 (f + 1) n nC (nI P) (nI j) = F_X1_senseFault_L11 fN nN p0 p1 f n nC (F_X1_behindStatement fN nN (nI P)) (nI (j + 1)) := fun p0 p1 f j hj => by
        rw [sf_o hj hP hT (by rw [hl]; decide) (by rw [hl]; decide), if_neg hn8, if_neg hc4, rg_104 hl, if_neg c1, if_neg (show ¬ F_X1_numberAt fN nN (nI (P + 3)) < 10 from fun k => by have := i_lt k; omega), if_neg (by decide)]
      have b2 := dg_b fN nN (nI (P + 2))
      have b10 : 10 ≤ (F_X1_numberAt fN nN (nI (P + 3))).toInt := by omega
      rw [e1] at ey
      rw [e2] at ez
      clear e1 e2 hw c1 c2 c3
      generalize F_X1_digitAt fN nN (nI (P + 1)) = d1 at ey ez
      generalize F_X1_digitAt fN nN (nI (P + 2)) = d2 at ey ez b2
      generalize F_X1_numberAt fN nN (nI (P + 3)) = d3 at ey ez b3 b10
      subst ey ez
      refine Or.inr ⟨(show ¬ (1 : Int32) = 0 by decide), hsf, ?_, ?_, hz⟩
      · exact ⟨⟨hS.1.1, hS.1.2.1, fun j hj => hS.1.2.2 j hj⟩, ⟨⟨Eq.trans (b := d1) rfl (yO_15 (1, o 13, o 14, d1, d2, d3, o 18, a 1, a 2, a 3, a 4, a 5, a 6, a 7, a 8, a 9, a 10, a 11, a 12)).symm, Eq.trans (b := d2) rfl (yO_16 (1, o 13, o 14, d1, d2, d3, o 18, a 1, a 2, a 3, a 4, a 5, a 6, a 7, a 8, a 9, a 10, a 11, a 12)).symm, Eq.trans (b := d3) rfl (yO_17 (1, o 13, o 14, d1, d2, d3, o 18, a 1, a 2, a 3, a 4, a 5, a 6, a 7, a 8, a 9, a 10, a 11, a 12)).symm, Eq.trans (b := g 3) rfl (Eq.trans (b := o 18) hS.2.1.1.2.2.2 (yO_18 (1, o 13, o 14, d1, d2, d3, o 18, a 1, a 2, a 3, a 4, a 5, a 6, a 7, a 8, a 9, a 10, a 11, a 12)).symm)⟩, Eq.trans (b := g 4) rfl hS.2.1.2⟩, hS.2.2.1, fun k hk => hS.2.2.2 k hk⟩
      · exact ⟨hD.1, hD.2.1, fun l hl => hD.2.2.1 l hl, ⟨b2, ⟨b10, b3.2⟩, hD.2.2.2.1.2.2⟩, fun k hk => hD.2.2.2.2 k hk⟩
theorem cl_f {b : Nat} (hb : b < 900) (hf : 4 ≤ a 22 b ∨ 5 < a 22 (b + 1) ∨ a 22 (b + 3) = 0 ∨ o 13 = 8) : F_X7_comesLine o a (nI b) = (0, o 13, a 1, a 2, a 3, a 4) := by
  unfold F_X7_comesLine
  dsimp only
  rw [nI_1, nI_3, nI_clamp (by omega), nI_clamp (by omega), nI_clamp (by omega)]
  by_cases c1 : 4 ≤ a 22 b
  · rw [if_pos c1]
  · rw [if_neg c1]
    by_cases c2 : 5 < a 22 (b + 1)
    · rw [if_pos c2]
    · rw [if_neg c2]
      by_cases c3 : a 22 (b + 3) = 0
      · rw [if_pos c3]
      · rw [if_neg c3, if_pos (((hf.resolve_left c1).resolve_left c2).resolve_left c3)]
theorem cl_t {b : Nat} (hb : b < 900) (c1 : ¬ 4 ≤ a 22 b) (c2 : ¬ 5 < a 22 (b + 1)) (c3 : ¬ a 22 (b + 3) = 0) (c4 : ¬ o 13 = 8) : F_X7_comesLine o a (nI b) = (1, o 13 + 1, upd (a 1) (o 13).toNatClampNeg (a 22 b), upd (a 2) (o 13).toNatClampNeg (a 22 (b + 1)), upd (a 3) (o 13).toNatClampNeg (a 22 (b + 2)), upd (a 4) (o 13).toNatClampNeg (a 22 (b + 3))) := by
  unfold F_X7_comesLine
  dsimp only
  rw [nI_1, nI_2, nI_3, nI_clamp (by omega), nI_clamp (by omega), nI_clamp (by omega), nI_clamp (by omega), if_neg c1, if_neg c2, if_neg c3, if_neg c4]
theorem cm_108 (hS : SR q n g nC L o a) (hD : DR o a) (hz : ∀ j : Nat, j < 4 → L j 7 = 0 ∨ L j 7 = 1) {P i : Nat} (hi : i < 48) (hP : P < 900) (hT : (P : Int) < nN.toInt) (hl : F_X1_letterAt fN nN (nI P) = 108) (h20 : a 20 i = F_X1_letterAt fN nN (nI P)) (hw : a 22 (4 * i) = F_X1_digitAt fN nN (nI (P + 1)) ∧ a 22 (4 * i + 1) = F_X1_digitAt fN nN (nI (P + 2)) ∧ a 22 (4 * i + 2) = F_X1_digitAt fN nN (nI (P + 3)) ∧ a 22 (4 * i + 3) = F_X1_digitAt fN nN (nI (P + 4))) {y : Int32 × Int32 × Int32 × Int32 × Int32 × Int32 × Int32 × (Nat → Int32) × (Nat → Int32) × (Nat → Int32) × (Nat → Int32) × (Nat → Int32) × (Nat → Int32) × (Nat → Int32) × (Nat → Int32) × (Nat → Int32) × (Nat → Int32) × (Nat → Int32) × (Nat → Int32)} (ey : y = F_X7_comes o a (nI i)) {z : Int32 × (Nat → Nat → Int32) × Int32 × (Nat → Int32) × (Nat → Nat → Int32)} (ez : z = F_X1_bring fN nN nC wW q n g L (nI P)) : cmc fN nN P n nC y z := by
  have hn8 : ¬ 8 < n := l8 (by rw [hS.1.1]; exact hD.1.2)
  have hc4 : ¬ 4 < nC := l4 (by rw [hS.2.2.1]; exact hD.2.1.2)
  have x1 : nI (4 * i) = 4 * nI i := (nI_m4 (by omega)).symm
  have b1 := dg_b fN nN (nI (P + 1))
  have b3 := dg_b fN nN (nI (P + 3))
  have b4 := dg_b fN nN (nI (P + 4))
  have l0 : (0 : Int32).toInt = 0 := rfl
  have l1 : (1 : Int32).toInt = 1 := rfl
  have l4' : (4 : Int32).toInt = 4 := rfl
  have l5 : (5 : Int32).toInt = 5 := rfl
  have l6 : (6 : Int32).toInt = 6 := rfl
  have l8' : (8 : Int32).toInt = 8 := rfl
  obtain ⟨w1, w2, w3, w4⟩ := hw
  obtain ⟨N, hN, hN8⟩ : ∃ N : Nat, o 13 = nI N ∧ N ≤ 8 := ⟨(o 13).toInt.toNat, x_nIt hD.1.1, by have := hD.1; omega⟩
  have hnN : n = nI N := hS.1.1.trans hN
  have e0 := eX7_comes_4 o a (nI i) (nI (4 * i)) 108 _ _ x1 (by rw [nI_clamp (by omega), h20, hl]) rfl rfl (by decide) rfl
  by_cases hf : 4 ≤ F_X1_digitAt fN nN (nI (P + 1)) ∨ 5 < F_X1_digitAt fN nN (nI (P + 2)) ∨ F_X1_digitAt fN nN (nI (P + 4)) = 0 ∨ o 13 = 8
  · have e1 := cl_f (o := o) (a := a) (b := 4 * i) (by omega) (by rw [w1, w2, w4]; exact hf)
    rw [e1] at e0
    rw [e0] at ey
    subst ey
    refine Or.inl ⟨rfl, fun p0 p1 f j hj => ?_⟩
    rw [sf_l hj hP hT hl]
    by_cases c4 : o 13 = 8
    · rw [if_pos (show 8 < n + 1 from Int32.lt_iff_toInt_lt.mpr (by rw [hS.1.1, c4]; decide))]
    · have hN7 : N ≠ 8 := fun k => c4 (by rw [hN, k]; rfl)
      rw [if_neg (show ¬ 8 < n + 1 from l8 (by rw [hnN, nI_1, nI_toInt (by omega)]; omega)), if_neg hc4, rg_108 hl]
      by_cases c1 : 4 ≤ F_X1_digitAt fN nN (nI (P + 1))
      · rw [if_pos c1, if_pos rfl]
      · rw [if_neg c1]
        by_cases c2 : 5 < F_X1_digitAt fN nN (nI (P + 2))
        · rw [if_pos (show 6 ≤ F_X1_digitAt fN nN (nI (P + 2)) from Int32.le_iff_toInt_le.mpr (by have := i_lt c2; omega)), if_pos rfl]
        · rw [if_neg (show ¬ 6 ≤ F_X1_digitAt fN nN (nI (P + 2)) from fun k => c2 (Int32.lt_iff_toInt_lt.mpr (by have := i_le k; omega)))]
          have c3 : F_X1_digitAt fN nN (nI (P + 4)) = 0 := ((hf.resolve_left c1).resolve_left c2).resolve_right c4
          rw [if_pos (show F_X1_digitAt fN nN (nI (P + 4)) < 1 by rw [c3]; decide), if_pos rfl]
  · have c1 : ¬ 4 ≤ F_X1_digitAt fN nN (nI (P + 1)) := fun k => hf (Or.inl k)
    have c2 : ¬ 5 < F_X1_digitAt fN nN (nI (P + 2)) := fun k => hf (Or.inr (Or.inl k))
    have c3 : ¬ F_X1_digitAt fN nN (nI (P + 4)) = 0 := fun k => hf (Or.inr (Or.inr (Or.inl k)))
    have c4 : ¬ o 13 = 8 := fun k => hf (Or.inr (Or.inr (Or.inr k)))
    have hN7 : N ≠ 8 := fun k => c4 (by rw [hN, k]; rfl)
    have k1 := i_nle c1
    have k4 : 1 ≤ (F_X1_digitAt fN nN (nI (P + 4))).toInt := by
      by_cases k : (F_X1_digitAt fN nN (nI (P + 4))).toInt = 0
      · exact absurd (Int32.toInt_inj.mp (k.trans l0.symm)) c3
      · omega
    have e1 := cl_t (o := o) (a := a) (b := 4 * i) (by omega) (by rw [w1]; exact c1) (by rw [w2]; exact c2) (by rw [w4]; exact c3) c4
    rw [w1, w2, w3, w4, hN, nI_clamp (by omega), nI_1] at e1
    rw [e1] at e0
    have e2 : F_X1_bring fN nN nC wW q n g L (nI P) = (nC, va_up (va_up (va_up (va_up q 0 (upd (q 0) N (F_X1_digitAt fN nN (nI (P + 1))))) 1 (upd (q 1) N (F_X1_digitAt fN nN (nI (P + 2))))) 2 (upd (q 2) N (F_X1_digitAt fN nN (nI (P + 3))))) 3 (upd (q 3) N (F_X1_digitAt fN nN (nI (P + 4)))), nI (N + 1), g, L) := by
      unfold F_X1_bring F_X5_add
      dsimp only
      rw [hl, if_neg (by decide), if_pos rfl, hnN, if_neg (show ¬ (8 : Int32) ≤ nI N from nI_ge (b := 8) (by omega) (by omega)), nI_1, nI_1, nI_2, nI_3, nI_4, q_put (by omega) (by omega), q_put (by omega) (by omega), q_put (by omega) (by omega), q_put (by omega) (by omega)]
    have hsf : ∀ (p0 p1 : Int32) (f j : Nat), j < 90 → F_X1_senseFault_L11 fN nN p0 p1 (f + 1) n nC (nI P) (nI j) = F_X1_senseFault_L11 fN nN p0 p1 f (nI (N + 1)) nC (F_X1_behindStatement fN nN (nI P)) (nI (j + 1)) := fun p0 p1 f j hj => by
      rw [sf_l hj hP hT hl, if_neg (show ¬ 8 < n + 1 from l8 (by rw [hnN, nI_1, nI_toInt (by omega)]; omega)), if_neg hc4, rg_108 hl, if_neg c1, if_neg (show ¬ 6 ≤ F_X1_digitAt fN nN (nI (P + 2)) from fun k => c2 (Int32.lt_iff_toInt_lt.mpr (by have := i_le k; omega))), if_neg (show ¬ F_X1_digitAt fN nN (nI (P + 4)) < 1 from fun k => by have := i_lt k; omega), if_neg (by decide), hnN, nI_1]
    rw [e0] at ey
    rw [e2] at ez
    clear e0 e1 e2 w1 w2 w3 w4 c1 c2 c3 hf
    generalize F_X1_digitAt fN nN (nI (P + 1)) = d1 at ey ez b1 k1
    generalize F_X1_digitAt fN nN (nI (P + 2)) = d2 at ey ez
    generalize F_X1_digitAt fN nN (nI (P + 3)) = d3 at ey ez b3
    generalize F_X1_digitAt fN nN (nI (P + 4)) = d4 at ey ez b4 k4
    subst ey ez
    have hg : ∀ (f f' : Nat → Int32) (x : Int32) (j : Nat), f j = f' j → upd f N x j = upd f' N x j := fun f f' x j e => by
      by_cases k : j = N
      · rw [k, pk_us, pk_us]
      · rw [pk_un k, pk_un k, e]
    refine Or.inr ⟨(show ¬ (1 : Int32) = 0 by decide), hsf, ?_, ?_, hz⟩
    · exact ⟨⟨rfl, by show (nI (N + 1)).toInt ≤ 8; rw [nI_toInt (by omega)]; omega, fun j hj => ⟨hg _ _ _ j (hS.1.2.2 j hj).1, hg _ _ _ j (hS.1.2.2 j hj).2.1, hg _ _ _ j (hS.1.2.2 j hj).2.2.1, hg _ _ _ j (hS.1.2.2 j hj).2.2.2⟩⟩, ⟨⟨hS.2.1.1.1, hS.2.1.1.2.1, hS.2.1.1.2.2.1, hS.2.1.1.2.2.2⟩, hS.2.1.2⟩, hS.2.2.1, fun k hk => hS.2.2.2 k hk⟩
    · refine ⟨⟨by show 0 ≤ (nI (N + 1)).toInt; rw [nI_toInt (by omega)]; omega, by show (nI (N + 1)).toInt ≤ 8; rw [nI_toInt (by omega)]; omega⟩, hD.2.1, fun l hl' => ?_, ⟨hD.2.2.2.1.1, hD.2.2.2.1.2.1, hD.2.2.2.1.2.2⟩, fun k hk => hD.2.2.2.2 k hk⟩
      have hl2 : (l : Int) < (nI (N + 1)).toInt := hl'
      rw [nI_toInt (by omega)] at hl2
      show (0 ≤ (upd (a 1) N d1 l).toInt ∧ (upd (a 1) N d1 l).toInt < 4) ∧ (0 ≤ (upd (a 3) N d3 l).toInt ∧ (upd (a 3) N d3 l).toInt ≤ 9) ∧ (1 ≤ (upd (a 4) N d4 l).toInt ∧ (upd (a 4) N d4 l).toInt ≤ 9)
      by_cases k : l = N
      · rw [k, pk_us, pk_us, pk_us]
        omega
      · rw [pk_un k, pk_un k, pk_un k]
        exact hD.2.2.1 l (by rw [hN, nI_toInt (by omega)]; omega)
theorem ck_f {b : Nat} (hb : b < 900) (hf : 2 < a 22 b ∨ F_X7_isIn (a 22 (b + 1)) 1 4 = 0 ∨ F_X7_isIn (a 22 (b + 2)) 1 30 = 0 ∨ o 14 = 4) : F_X7_comesLooker o a (nI b) = (0, o 14, a 5, a 6, a 7, a 8, a 9, a 10, a 11, a 12) := by
  unfold F_X7_comesLooker
  dsimp only
  rw [nI_1, nI_2, nI_clamp (by omega), nI_clamp (by omega), nI_clamp (by omega)]
  by_cases c1 : 2 < a 22 b
  · rw [if_pos c1]
  · rw [if_neg c1]
    by_cases c2 : F_X7_isIn (a 22 (b + 1)) 1 4 = 0
    · rw [if_pos c2]
    · rw [if_neg c2]
      by_cases c3 : F_X7_isIn (a 22 (b + 2)) 1 30 = 0
      · rw [if_pos c3]
      · rw [if_neg c3, if_pos (((hf.resolve_left c1).resolve_left c2).resolve_left c3)]
theorem ck_t {b : Nat} (hb : b < 900) (c1 : ¬ 2 < a 22 b) (c2 : ¬ F_X7_isIn (a 22 (b + 1)) 1 4 = 0) (c3 : ¬ F_X7_isIn (a 22 (b + 2)) 1 30 = 0) (c4 : ¬ o 14 = 4) : F_X7_comesLooker o a (nI b) = (1, o 14 + 1, upd (a 5) (o 14).toNatClampNeg (a 22 b), upd (a 6) (o 14).toNatClampNeg (a 22 (b + 1)), upd (a 7) (o 14).toNatClampNeg (a 22 (b + 2)), upd (a 8) (o 14).toNatClampNeg 0, upd (a 9) (o 14).toNatClampNeg 0, upd (a 10) (o 14).toNatClampNeg 0, upd (a 11) (o 14).toNatClampNeg 0, upd (a 12) (o 14).toNatClampNeg 0) := by
  unfold F_X7_comesLooker F_X7_isFresh
  dsimp only
  rw [nI_1, nI_2, nI_clamp (by omega), nI_clamp (by omega), nI_clamp (by omega), if_neg c1, if_neg c2, if_neg c3, if_neg c4]
  rfl
theorem in_z {v l m : Int32} : F_X7_isIn v l m = if v < l ∨ m < v then 0 else 1 := by
  unfold F_X7_isIn
  by_cases c1 : v < l
  · rw [if_pos c1, if_pos (Or.inl c1)]
  · rw [if_neg c1]
    by_cases c2 : m < v
    · rw [if_pos c2, if_pos (Or.inr c2)]
    · rw [if_neg c2, if_neg (fun k => k.elim c1 c2)]
theorem in_0 {v l m : Int32} : F_X7_isIn v l m = 0 ↔ (v < l ∨ m < v) := by
  rw [in_z]
  by_cases c : v < l ∨ m < v
  · rw [if_pos c]; exact ⟨fun _ => c, fun _ => rfl⟩
  · rw [if_neg c]; exact ⟨fun k => absurd k (by decide), fun k => absurd k c⟩
set_option maxHeartbeats 2000000 in
theorem cm_107 (hS : SR q n g nC L o a) (hD : DR o a) (hz : ∀ j : Nat, j < 4 → L j 7 = 0 ∨ L j 7 = 1) {P i : Nat} (hi : i < 48) (hP : P < 900) (hT : (P : Int) < nN.toInt) (hl : F_X1_letterAt fN nN (nI P) = 107) (h20 : a 20 i = F_X1_letterAt fN nN (nI P)) (hw : a 22 (4 * i) = F_X1_digitAt fN nN (nI (P + 1)) ∧ a 22 (4 * i + 1) = F_X1_digitAt fN nN (nI (P + 2)) ∧ a 22 (4 * i + 2) = F_X1_numberAt fN nN (nI (P + 3))) {y : Int32 × Int32 × Int32 × Int32 × Int32 × Int32 × Int32 × (Nat → Int32) × (Nat → Int32) × (Nat → Int32) × (Nat → Int32) × (Nat → Int32) × (Nat → Int32) × (Nat → Int32) × (Nat → Int32) × (Nat → Int32) × (Nat → Int32) × (Nat → Int32) × (Nat → Int32)} (ey : y = F_X7_comes o a (nI i)) {z : Int32 × (Nat → Nat → Int32) × Int32 × (Nat → Int32) × (Nat → Nat → Int32)} (ez : z = F_X1_bring fN nN nC wW q n g L (nI P)) : cmc fN nN P n nC y z := by
  have hn8 : ¬ 8 < n := l8 (by rw [hS.1.1]; exact hD.1.2)
  have hc4 : ¬ 4 < nC := l4 (by rw [hS.2.2.1]; exact hD.2.1.2)
  have x1 : nI (4 * i) = 4 * nI i := (nI_m4 (by omega)).symm
  have b1 := dg_b fN nN (nI (P + 1))
  have l0 : (0 : Int32).toInt = 0 := rfl
  have l1 : (1 : Int32).toInt = 1 := rfl
  have l2 : (2 : Int32).toInt = 2 := rfl
  have l3 : (3 : Int32).toInt = 3 := rfl
  have l4' : (4 : Int32).toInt = 4 := rfl
  have l30 : (30 : Int32).toInt = 30 := rfl
  obtain ⟨w1, w2, w3⟩ := hw
  obtain ⟨N, hN, hN8⟩ : ∃ N : Nat, o 14 = nI N ∧ N ≤ 4 := ⟨(o 14).toInt.toNat, x_nIt hD.2.1.1, by have := hD.2.1; omega⟩
  have hnN : nC = nI N := hS.2.2.1.trans hN
  have e0 := eX7_comes_6 o a (nI i) (nI (4 * i)) 107 _ _ x1 (by rw [nI_clamp (by omega), h20, hl]) rfl rfl (by decide) (by decide) (by decide)
  have t3 : 2 < F_X1_digitAt fN nN (nI (P + 1)) ↔ 3 ≤ F_X1_digitAt fN nN (nI (P + 1)) := ⟨fun k => Int32.le_iff_toInt_le.mpr (by have := i_lt k; omega), fun k => Int32.lt_iff_toInt_lt.mpr (by have := i_le k; omega)⟩
  by_cases hf : 2 < F_X1_digitAt fN nN (nI (P + 1)) ∨ (F_X1_digitAt fN nN (nI (P + 2)) < 1 ∨ 4 < F_X1_digitAt fN nN (nI (P + 2))) ∨ (F_X1_numberAt fN nN (nI (P + 3)) < 1 ∨ 30 < F_X1_numberAt fN nN (nI (P + 3))) ∨ o 14 = 4
  · have e1 := ck_f (o := o) (a := a) (b := 4 * i) (by omega) (by rw [w1, w2, w3, in_0, in_0]; exact hf)
    rw [e1] at e0
    rw [e0] at ey
    subst ey
    refine Or.inl ⟨rfl, fun p0 p1 f j hj => ?_⟩
    rw [sf_k hj hP hT hl, if_neg hn8]
    by_cases c4 : o 14 = 4
    · rw [if_pos (show 4 < nC + 1 from Int32.lt_iff_toInt_lt.mpr (by rw [hS.2.2.1, c4]; decide))]
    · have hN7 : N ≠ 4 := fun k => c4 (by rw [hN, k]; rfl)
      rw [if_neg (show ¬ 4 < nC + 1 from l4 (by rw [hnN, nI_1, nI_toInt (by omega)]; omega)), rg_107 hl]
      by_cases c1 : 2 < F_X1_digitAt fN nN (nI (P + 1))
      · rw [if_pos (t3.mp c1), if_pos rfl]
      · rw [if_neg (fun k => c1 (t3.mpr k))]
        by_cases c2 : F_X1_digitAt fN nN (nI (P + 2)) < 1
        · rw [if_pos c2, if_pos rfl]
        · rw [if_neg c2]
          by_cases c3 : 4 < F_X1_digitAt fN nN (nI (P + 2))
          · rw [if_pos c3, if_pos rfl]
          · rw [if_neg c3]
            have hf' := ((hf.resolve_left c1).resolve_left (fun k => k.elim c2 c3)).resolve_right c4
            by_cases c5 : F_X1_numberAt fN nN (nI (P + 3)) < 1
            · rw [if_pos c5, if_pos rfl]
            · rw [if_neg c5, if_pos (hf'.resolve_left c5), if_pos rfl]
  · have c1 : ¬ 2 < F_X1_digitAt fN nN (nI (P + 1)) := fun k => hf (Or.inl k)
    have c2 : ¬ (F_X1_digitAt fN nN (nI (P + 2)) < 1 ∨ 4 < F_X1_digitAt fN nN (nI (P + 2))) := fun k => hf (Or.inr (Or.inl k))
    have c3 : ¬ (F_X1_numberAt fN nN (nI (P + 3)) < 1 ∨ 30 < F_X1_numberAt fN nN (nI (P + 3))) := fun k => hf (Or.inr (Or.inr (Or.inl k)))
    have c4 : ¬ o 14 = 4 := fun k => hf (Or.inr (Or.inr (Or.inr k)))
    have hN7 : N ≠ 4 := fun k => c4 (by rw [hN, k]; rfl)
    have k1 := i_nlt c1
    have k2 := i_nlt (fun k => c2 (Or.inl k))
    have k3 := i_nlt (fun k => c2 (Or.inr k))
    have e1 := ck_t (o := o) (a := a) (b := 4 * i) (by omega) (by rw [w1]; exact c1) (by rw [w2, in_0]; exact c2) (by rw [w3, in_0]; exact c3) c4
    rw [w1, w2, w3, hN, nI_clamp (by omega), nI_1] at e1
    rw [e1] at e0
    have hwk : wkb (nI (N + 1)) (nI N) = true := wk_t (N := N + 1) (by rw [nI_toInt (by omega)]) (by omega) (by omega)
    have e2 : F_X1_bring fN nN nC wW q n g L (nI P) = (nI (N + 1), q, n, g, va_up L N (F_X2_come (L N) (F_X1_digitAt fN nN (nI (P + 1))) (F_X1_digitAt fN nN (nI (P + 2))) (F_X1_numberAt fN nN (nI (P + 3))))) := by
      unfold F_X1_bring F_X3_addLooker
      dsimp only
      rw [hl, if_neg (by decide), if_neg (by decide), if_neg (by decide), hnN, if_neg (show ¬ (4 : Int32) ≤ nI N from nI_ge (b := 4) (by omega) (by omega)), nI_1, nI_1, nI_2, nI_3, nI_pred, if_pos hwk, nI_clamp (by omega)]
    have hsf : ∀ (p0 p1 : Int32) (f j : Nat), j < 90 → F_X1_senseFault_L11 fN nN p0 p1 (f + 1) n nC (nI P) (nI j) = F_X1_senseFault_L11 fN nN p0 p1 f n (nI (N + 1)) (F_X1_behindStatement fN nN (nI P)) (nI (j + 1)) := fun p0 p1 f j hj => by
      rw [sf_k hj hP hT hl, if_neg hn8, if_neg (show ¬ 4 < nC + 1 from l4 (by rw [hnN, nI_1, nI_toInt (by omega)]; omega)), rg_107 hl, if_neg (fun k => c1 (t3.mpr k)), if_neg (fun k => c2 (Or.inl k)), if_neg (fun k => c2 (Or.inr k)), if_neg (fun k => c3 (Or.inl k)), if_neg (fun k => c3 (Or.inr k)), if_neg (by decide), hnN, nI_1]
    rw [e0] at ey
    rw [e2] at ez
    clear e0 e1 e2 w1 w2 w3 c1 c2 c3 hf t3
    generalize F_X1_digitAt fN nN (nI (P + 1)) = d1 at ey ez b1 k1
    generalize F_X1_digitAt fN nN (nI (P + 2)) = d2 at ey ez k2 k3
    generalize F_X1_numberAt fN nN (nI (P + 3)) = d3 at ey ez
    subst ey ez
    refine Or.inr ⟨(show ¬ (1 : Int32) = 0 by decide), hsf, ?_, ?_, ?_⟩
    · refine ⟨⟨hS.1.1, hS.1.2.1, fun j hj => hS.1.2.2 j hj⟩, ⟨⟨hS.2.1.1.1, hS.2.1.1.2.1, hS.2.1.1.2.2.1, hS.2.1.1.2.2.2⟩, hS.2.1.2⟩, rfl, fun k hk => ?_⟩
      have hk2 : (k : Int) < (nI (N + 1)).toInt := hk
      rw [nI_toInt (by omega)] at hk2
      show va_up L N (F_X2_come (L N) d1 d2 d3) k 0 = upd (a 5) N d1 k ∧ va_up L N (F_X2_come (L N) d1 d2 d3) k 1 = upd (a 6) N d2 k ∧ va_up L N (F_X2_come (L N) d1 d2 d3) k 2 = upd (a 7) N d3 k ∧ va_up L N (F_X2_come (L N) d1 d2 d3) k 3 = upd (a 8) N 0 k ∧ va_up L N (F_X2_come (L N) d1 d2 d3) k 4 = upd (a 9) N 0 k ∧ va_up L N (F_X2_come (L N) d1 d2 d3) k 5 = upd (a 10) N 0 k ∧ va_up L N (F_X2_come (L N) d1 d2 d3) k 6 = upd (a 11) N 0 k ∧ va_up L N (F_X2_come (L N) d1 d2 d3) k 7 = upd (a 12) N 0 k
      by_cases e : k = N
      · rw [e, va_up_self, pk_us, pk_us, pk_us, pk_us, pk_us, pk_us, pk_us, pk_us]
        exact ⟨rfl, rfl, rfl, rfl, rfl, rfl, rfl, rfl⟩
      · rw [va_up_ne _ _ e, pk_un e, pk_un e, pk_un e, pk_un e, pk_un e, pk_un e, pk_un e, pk_un e]
        exact hS.2.2.2 k (by rw [hN, nI_toInt (by omega)]; omega)
    · refine ⟨hD.1, ⟨by show 0 ≤ (nI (N + 1)).toInt; rw [nI_toInt (by omega)]; omega, by show (nI (N + 1)).toInt ≤ 4; rw [nI_toInt (by omega)]; omega⟩, fun l hl' => hD.2.2.1 l hl', ⟨hD.2.2.2.1.1, hD.2.2.2.1.2.1, hD.2.2.2.1.2.2⟩, fun k hk => ?_⟩
      have hk2 : (k : Int) < (nI (N + 1)).toInt := hk
      rw [nI_toInt (by omega)] at hk2
      show (0 ≤ (upd (a 5) N d1 k).toInt ∧ (upd (a 5) N d1 k).toInt ≤ 2) ∧ (0 ≤ (upd (a 10) N 0 k).toInt ∧ (upd (a 10) N 0 k).toInt + unr (upd (a 11) N 0 k) 8 ≤ 8 + (upd (a 12) N 0 k).toInt) ∧ (∀ i : Nat, 8 ≤ i → i < 32 → bt (upd (a 11) N 0 k) i = false) ∧ (upd (a 12) N 0 k = 0 ∨ upd (a 12) N 0 k = 1) ∧ (1 ≤ (upd (a 6) N d2 k).toInt ∧ (upd (a 6) N d2 k).toInt ≤ 4) ∧ (0 ≤ (upd (a 8) N 0 k).toInt ∧ (upd (a 8) N 0 k).toInt ≤ 1200 ∧ (upd (a 12) N 0 k = 0 → (upd (a 8) N 0 k).toInt ≤ 999))
      by_cases e : k = N
      · have u := unr_le 0 8 (by omega)
        rw [e, pk_us, pk_us, pk_us, pk_us, pk_us, pk_us, l0]
        exact ⟨by omega, by omega, fun i _ _ => b_0 i, Or.inl rfl, by omega, by omega⟩
      · rw [pk_un e, pk_un e, pk_un e, pk_un e, pk_un e, pk_un e]
        exact hD.2.2.2.2 k (by rw [hN, nI_toInt (by omega)]; omega)
    · intro j hj
      show va_up L N (F_X2_come (L N) d1 d2 d3) j 7 = 0 ∨ va_up L N (F_X2_come (L N) d1 d2 d3) j 7 = 1
      by_cases e : j = N
      · left
        rw [e, va_up_self]
        rfl
      · rw [va_up_ne _ _ e]
        exact hz j hj
theorem cm (hS : SR q n g nC L o a) (hD : DR o a) (hz : ∀ j : Nat, j < 4 → L j 7 = 0 ∨ L j 7 = 1) {P i : Nat} (hi : i < 48) (hP : P < 900) (hT : (P : Int) < nN.toInt) (h20 : a 20 i = F_X1_letterAt fN nN (nI P)) (hw : sd fN nN P (4 * i) (a 22)) {y : Int32 × Int32 × Int32 × Int32 × Int32 × Int32 × Int32 × (Nat → Int32) × (Nat → Int32) × (Nat → Int32) × (Nat → Int32) × (Nat → Int32) × (Nat → Int32) × (Nat → Int32) × (Nat → Int32) × (Nat → Int32) × (Nat → Int32) × (Nat → Int32) × (Nat → Int32)} (ey : y = F_X7_comes o a (nI i)) {z : Int32 × (Nat → Nat → Int32) × Int32 × (Nat → Int32) × (Nat → Nat → Int32)} (ez : z = F_X1_bring fN nN nC wW q n g L (nI P)) : cmc fN nN P n nC y z := by
  rcases hw with ⟨hl, hw⟩ | ⟨hl, hw⟩ | ⟨hl, hw⟩ | ⟨hl, hw⟩
  · exact cm_104 hS hD hz hi hP hT hl h20 hw ey ez
  · exact cm_108 hS hD hz hi hP hT hl h20 hw ey ez
  · exact cm_116 hS hD hz hi hP hT hl h20 hw ey ez
  · exact cm_107 hS hD hz hi hP hT hl h20 hw ey ez
end CM
