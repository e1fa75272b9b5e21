/-! train: the reference's loops with what never changes taken out -/
noncomputable def tl (oO : Nat → Int32) (aO : Nat → Nat → Int32) (f : Nat) (w20 w21 w22 : Nat → Int32) (x24 x25 v : Int32) := F_X7_train_L12 oO aO f (aO 10) (aO 11) (aO 12) (aO 1) w20 w21 w22 (aO 26) (aO 2) (aO 3) (aO 4) (aO 5) (aO 6) (aO 7) (aO 8) (aO 9) (oO 13) (oO 14) (oO 15) (oO 16) (oO 17) (oO 18) (oO 23) x24 x25 (oO 28) (oO 29) v
def tSo (oO : Nat → Int32) (x23 x24 x25 : Int32) : Nat → Int32 := (upd (upd (upd (upd (upd (upd (upd (upd (upd (upd (upd oO 13 (oO 13)) 14 (oO 14)) 15 (oO 15)) 16 (oO 16)) 17 (oO 17)) 18 (oO 18)) 23 x23) 24 x24) 25 x25) 28 (oO 28)) 29 (oO 29))
def tSa (aO : Nat → Nat → Int32) (w20 w21 w22 : Nat → Int32) : Nat → Nat → Int32 := (va_up (va_up (va_up (va_up (va_up (va_up (va_up (va_up (va_up (va_up (va_up (va_up (va_up (va_up (va_up (va_up aO 1 (aO 1)) 2 (aO 2)) 3 (aO 3)) 4 (aO 4)) 5 (aO 5)) 6 (aO 6)) 7 (aO 7)) 8 (aO 8)) 9 (aO 9)) 10 (aO 10)) 11 (aO 11)) 12 (aO 12)) 20 w20) 21 w21) 22 w22) 26 (aO 26))
def mk21 (oO : Nat → Int32) (aO : Nat → Nat → Int32) (x : Int32) (K : Nat → Int32) : Int32 × Int32 × Int32 × Int32 × Int32 × Int32 × Int32 × Int32 × (Nat → Int32) × (Nat → Int32) × (Nat → Int32) × (Nat → Int32) × (Nat → Int32) × (Nat → Int32) × (Nat → Int32) × (Nat → Int32) × (Nat → Int32) × (Nat → Int32) × (Nat → Int32) × (Nat → Int32) × (Nat → Int32) := (oO 13, oO 14, oO 15, oO 16, oO 17, oO 18, 1, x, aO 1, aO 2, aO 3, aO 4, aO 5, aO 6, aO 7, aO 8, aO 9, aO 10, aO 11, aO 12, K)
noncomputable def tm (oO : Nat → Int32) (aO : Nat → Nat → Int32) (v x24 x25 x : Int32) (K w20 w21 w22 : Nat → Int32) (f : Nat) (O : Nat → Int32) (A : Nat → Nat → Int32) (v2 : Int32) := F_X7_train_L86c oO aO v x24 x25 (mk21 oO aO x K) w20 w21 w22 f (A 10) (A 11) (A 12) (A 1) (A 2) (A 3) (A 4) (A 5) (A 6) (A 7) (A 8) (A 9) (O 13) (O 14) (O 15) (O 16) (O 17) (O 18) v2
def uSo (oO : Nat → Int32) (x24 x25 x : Int32) (O : Nat → Int32) : Nat → Int32 := (upd (upd (upd (upd (upd (upd (upd (upd (upd (upd (upd oO 13 (O 13)) 14 (O 14)) 15 (O 15)) 16 (O 16)) 17 (O 17)) 18 (O 18)) 23 0) 24 x24) 25 x25) 28 1) 29 x)
def uSa (aO : Nat → Nat → Int32) (K w20 w21 w22 : Nat → Int32) (A : Nat → Nat → Int32) : Nat → Nat → Int32 := (va_up (va_up (va_up (va_up (va_up (va_up (va_up (va_up (va_up (va_up (va_up (va_up (va_up (va_up (va_up (va_up aO 1 (A 1)) 2 (A 2)) 3 (A 3)) 4 (A 4)) 5 (A 5)) 6 (A 6)) 7 (A 7)) 8 (A 8)) 9 (A 9)) 10 (A 10)) 11 (A 11)) 12 (A 12)) 20 w20) 21 w21) 22 w22) 26 K)
def yO (y : Int32 × Int32 × Int32 × Int32 × Int32 × Int32 × Int32 × (Nat → Int32) × (Nat → Int32) × (Nat → Int32) × (Nat → Int32) × (Nat → Int32) × (Nat → Int32) × (Nat → Int32) × (Nat → Int32) × (Nat → Int32) × (Nat → Int32) × (Nat → Int32) × (Nat → Int32)) : Nat → Int32 := (upd (upd (upd (upd (upd (upd (fun _ => 0) 13 y.2.1) 14 y.2.2.1) 15 y.2.2.2.1) 16 y.2.2.2.2.1) 17 y.2.2.2.2.2.1) 18 y.2.2.2.2.2.2.1)
def yA (y : Int32 × Int32 × Int32 × Int32 × Int32 × Int32 × Int32 × (Nat → Int32) × (Nat → Int32) × (Nat → Int32) × (Nat → Int32) × (Nat → Int32) × (Nat → Int32) × (Nat → Int32) × (Nat → Int32) × (Nat → Int32) × (Nat → Int32) × (Nat → Int32) × (Nat → Int32)) : Nat → Nat → Int32 := (va_up (va_up (va_up (va_up (va_up (va_up (va_up (va_up (va_up (va_up (va_up (va_up (fun _ _ => 0) 1 y.2.2.2.2.2.2.2.1) 2 y.2.2.2.2.2.2.2.2.1) 3 y.2.2.2.2.2.2.2.2.2.1) 4 y.2.2.2.2.2.2.2.2.2.2.1) 5 y.2.2.2.2.2.2.2.2.2.2.2.1) 6 y.2.2.2.2.2.2.2.2.2.2.2.2.1) 7 y.2.2.2.2.2.2.2.2.2.2.2.2.2.1) 8 y.2.2.2.2.2.2.2.2.2.2.2.2.2.2.1) 9 y.2.2.2.2.2.2.2.2.2.2.2.2.2.2.2.1) 10 y.2.2.2.2.2.2.2.2.2.2.2.2.2.2.2.2.1) 11 y.2.2.2.2.2.2.2.2.2.2.2.2.2.2.2.2.2.1) 12 y.2.2.2.2.2.2.2.2.2.2.2.2.2.2.2.2.2.2)
section TL
variable {oO : Nat → Int32} {aO : Nat → Nat → Int32}
theorem tl_go {n : Nat} {w20 w21 w22 : Nat → Int32} {x24 x25 v : Int32} (hv : ¬ v = 0) (g : x24 < oO 23 ∨ x25 = 0) {s : Int32 × Int32 × (Nat → Int32) × (Nat → Int32) × (Nat → Int32)} (es : s = (F_X7_statement (tSo oO (oO 23) x24 x25) (tSa aO w20 w21 w22))) : (s.1 = 0 → tl oO aO (n + 1) w20 w21 w22 x24 x25 v = tl oO aO n s.2.2.1 s.2.2.2.1 s.2.2.2.2 s.2.1 (x25 + 0) s.1) ∧ (¬ s.1 = 0 → tl oO aO (n + 1) w20 w21 w22 x24 x25 v = tl oO aO n s.2.2.1 s.2.2.2.1 s.2.2.2.2 s.2.1 (x25 + 1) s.1) := by
  by_cases c : x24 < oO 23
  · refine ⟨fun q => ?_, fun q => ?_⟩
    · exact eX7_train_6 oO aO n (aO 10) (aO 11) (aO 12) (aO 1) w20 w21 w22 (aO 26) (aO 2) (aO 3) (aO 4) (aO 5) (aO 6) (aO 7) (aO 8) (aO 9) (oO 13) (oO 14) (oO 15) (oO 16) (oO 17) (oO 18) (oO 23) x24 x25 (oO 28) (oO 29) v s _ _ rfl es rfl hv c q
    · exact eX7_train_7 oO aO n (aO 10) (aO 11) (aO 12) (aO 1) w20 w21 w22 (aO 26) (aO 2) (aO 3) (aO 4) (aO 5) (aO 6) (aO 7) (aO 8) (aO 9) (oO 13) (oO 14) (oO 15) (oO 16) (oO 17) (oO 18) (oO 23) x24 x25 (oO 28) (oO 29) v s _ _ rfl es rfl hv c q
  · have e : x25 = 0 := g.resolve_left c
    refine ⟨fun q => ?_, fun q => ?_⟩
    · exact eX7_train_13 oO aO n (aO 10) (aO 11) (aO 12) (aO 1) w20 w21 w22 (aO 26) (aO 2) (aO 3) (aO 4) (aO 5) (aO 6) (aO 7) (aO 8) (aO 9) (oO 13) (oO 14) (oO 15) (oO 16) (oO 17) (oO 18) (oO 23) x24 x25 (oO 28) (oO 29) v s _ _ rfl es rfl hv c e q
    · exact eX7_train_14 oO aO n (aO 10) (aO 11) (aO 12) (aO 1) w20 w21 w22 (aO 26) (aO 2) (aO 3) (aO 4) (aO 5) (aO 6) (aO 7) (aO 8) (aO 9) (oO 13) (oO 14) (oO 15) (oO 16) (oO 17) (oO 18) (oO 23) x24 x25 (oO 28) (oO 29) v s _ _ rfl es rfl hv c e q
theorem tl_bad {n : Nat} {w20 w21 w22 : Nat → Int32} {x24 x25 : Int32} : tl oO aO (n + 1) w20 w21 w22 x24 x25 0 = (-1000 - x24, oO 13, oO 14, oO 15, oO 16, oO 17, oO 18, 0, x24, x25, oO 28, oO 29, aO 1, aO 2, aO 3, aO 4, aO 5, aO 6, aO 7, aO 8, aO 9, aO 10, aO 11, aO 12, w20, w21, w22, aO 26) := by
  exact eX7_train_5 oO aO n (aO 10) (aO 11) (aO 12) (aO 1) w20 w21 w22 (aO 26) (aO 2) (aO 3) (aO 4) (aO 5) (aO 6) (aO 7) (aO 8) (aO 9) (oO 13) (oO 14) (oO 15) (oO 16) (oO 17) (oO 18) (oO 23) x24 x25 (oO 28) (oO 29) 0 _ rfl rfl rfl
theorem tl_end {n : Nat} {w20 w21 w22 : Nat → Int32} {x24 x25 v : Int32} (hv : ¬ v = 0) (g1 : ¬ x24 < oO 23) (g2 : ¬ x25 = 0) : ∃ (x : Int32) (K : Nat → Int32), tl oO aO (n + 1) w20 w21 w22 x24 x25 v = tm oO aO v x24 x25 x K w20 w21 w22 ((x25.toInt - (0 : Int32).toInt).toNat + 1) oO aO 0 ∧ KI 80 70 (img oO aO) (aO 26) K := by
  obtain ⟨x, K, p1, p2⟩ := pa_s (o := tSo oO 0 x24 x25) (a := tSa aO w20 w21 w22) (s := 1) (by omega)
  have p3 : mk21 oO aO x K = F_X7_passesAll (tSo oO 0 x24 x25) (tSa aO w20 w21 w22) 1 1 := Eq.symm p1
  have hi : ∀ j, j < 70 → img (tSo oO 0 x24 x25) (tSa aO w20 w21 w22) j = img oO aO j := fun j hj => by
    by_cases c1 : j < 32
    · have e : j = 8 * (j / 8) + j % 8 := by omega
      have q := show j / 8 < 4 by omega
      rw [e, img_8 _ _ q (by omega), img_8 _ _ q (by omega)]
      match j / 8, q with
      | 0, _ => rfl
      | 1, _ => rfl
      | 2, _ => rfl
      | 3, _ => rfl
    · by_cases c2 : j < 64
      · have e : j = 32 + 4 * ((j - 32) / 4) + (j - 32) % 4 := by omega
        have q := show (j - 32) / 4 < 8 by omega
        rw [e, img_4 _ _ q (by omega), img_4 _ _ q (by omega)]
        match (j - 32) / 4, q with
        | 0, _ => rfl
        | 1, _ => rfl
        | 2, _ => rfl
        | 3, _ => rfl
        | 4, _ => rfl
        | 5, _ => rfl
        | 6, _ => rfl
        | 7, _ => rfl
      · have e : j = 64 + (j - 64) := by omega
        have q := show j - 64 < 6 by omega
        rw [e, img_o _ q, img_o _ q]
        match j - 64, q with
        | 0, _ => rfl
        | 1, _ => rfl
        | 2, _ => rfl
        | 3, _ => rfl
        | 4, _ => rfl
        | 5, _ => rfl
  refine ⟨x, K, ?_, fun j => ?_⟩
  · exact eX7_train_11 oO aO n (aO 10) (aO 11) (aO 12) (aO 1) w20 w21 w22 (aO 26) (aO 2) (aO 3) (aO 4) (aO 5) (aO 6) (aO 7) (aO 8) (aO 9) (oO 13) (oO 14) (oO 15) (oO 16) (oO 17) (oO 18) (oO 23) x24 x25 (oO 28) (oO 29) v (mk21 oO aO x K) p3 hv g1 g2 hv
  · have e := p2 j
    rw [e]
    by_cases c : 80 ≤ j ∧ j < 80 + 70
    · rw [if_pos c, if_pos (by omega), show 80 * 1 = 80 from rfl, hi _ (by omega)]
    · rw [if_neg c, if_neg (by omega)]
      rfl
theorem tm_end {n : Nat} {w20 w21 w22 K : Nat → Int32} {x24 x25 x v v2 : Int32} {O : Nat → Int32} {A : Nat → Nat → Int32} (g : x25 ≤ v2) : tm oO aO v x24 x25 x K w20 w21 w22 (n + 1) O A v2 = (x25, O 13, O 14, O 15, O 16, O 17, O 18, 0, x24, x25, 1, x, A 1, A 2, A 3, A 4, A 5, A 6, A 7, A 8, A 9, A 10, A 11, A 12, w20, w21, w22, K) := eX7_train_8 oO aO v x24 x25 (mk21 oO aO x K) w20 w21 w22 n (A 10) (A 11) (A 12) (A 1) (A 2) (A 3) (A 4) (A 5) (A 6) (A 7) (A 8) (A 9) (O 13) (O 14) (O 15) (O 16) (O 17) (O 18) v2 g
theorem tm_step {n : Nat} {w20 w21 w22 K : Nat → Int32} {x24 x25 x v v2 : Int32} {O : Nat → Int32} {A : Nat → Nat → Int32} (g : ¬ x25 ≤ v2) {y : Int32 × Int32 × Int32 × Int32 × Int32 × Int32 × Int32 × (Nat → Int32) × (Nat → Int32) × (Nat → Int32) × (Nat → Int32) × (Nat → Int32) × (Nat → Int32) × (Nat → Int32) × (Nat → Int32) × (Nat → Int32) × (Nat → Int32) × (Nat → Int32) × (Nat → Int32)} (ey : y = F_X7_comes (uSo oO x24 x25 x O) (uSa aO K w20 w21 w22 A) v2) (hy : ¬ y.1 = 0) : tm oO aO v x24 x25 x K w20 w21 w22 (n + 1) O A v2 = tm oO aO v x24 x25 x K w20 w21 w22 n (yO y) (yA y) (v2 + 1) := eX7_train_10 oO aO v x24 x25 (mk21 oO aO x K) w20 w21 w22 n (A 10) (A 11) (A 12) (A 1) (A 2) (A 3) (A 4) (A 5) (A 6) (A 7) (A 8) (A 9) (O 13) (O 14) (O 15) (O 16) (O 17) (O 18) v2 y _ _ rfl ey rfl g hy
theorem tm_bad {n : Nat} {w20 w21 w22 K : Nat → Int32} {x24 x25 x v v2 : Int32} {O : Nat → Int32} {A : Nat → Nat → Int32} (g : ¬ x25 ≤ v2) {y : Int32 × Int32 × Int32 × Int32 × Int32 × Int32 × Int32 × (Nat → Int32) × (Nat → Int32) × (Nat → Int32) × (Nat → Int32) × (Nat → Int32) × (Nat → Int32) × (Nat → Int32) × (Nat → Int32) × (Nat → Int32) × (Nat → Int32) × (Nat → Int32) × (Nat → Int32)} (ey : y = F_X7_comes (uSo oO x24 x25 x O) (uSa aO K w20 w21 w22 A) v2) (hy : y.1 = 0) : ∃ (x' : Int32) (f1 f2 f3 f4 f5 f6 f7 f8 f9 f10 f11 f12 : Nat → Int32), tm oO aO v x24 x25 x K w20 w21 w22 (n + 1) O A v2 = (-2000 - w21 v2.toNatClampNeg, K (80 * 1 + 64), K (80 * 1 + 65), K (80 * 1 + 66), K (80 * 1 + 67), K (80 * 1 + 68), K (80 * 1 + 69), 0, x24, x25, 0, x', f1, f2, f3, f4, f5, f6, f7, f8, f9, f10, f11, f12, w20, w21, w22, K) ∧ (∀ j, j < 8 → f1 j = K (80 * 1 + 0 + j)) ∧ (∀ j, j < 8 → f2 j = K (80 * 1 + 8 + j)) ∧ (∀ j, j < 8 → f3 j = K (80 * 1 + 16 + j)) ∧ (∀ j, j < 8 → f4 j = K (80 * 1 + 24 + j)) ∧ (∀ j, j < 4 → f5 j = K (80 * 1 + 32 + j)) ∧ (∀ j, j < 4 → f6 j = K (80 * 1 + 36 + j)) ∧ (∀ j, j < 4 → f7 j = K (80 * 1 + 40 + j)) ∧ (∀ j, j < 4 → f8 j = K (80 * 1 + 44 + j)) ∧ (∀ j, j < 4 → f9 j = K (80 * 1 + 48 + j)) ∧ (∀ j, j < 4 → f10 j = K (80 * 1 + 52 + j)) ∧ (∀ j, j < 4 → f11 j = K (80 * 1 + 56 + j)) ∧ (∀ j, j < 4 → f12 j = K (80 * 1 + 60 + j)) := by
  obtain ⟨x', f1, f2, f3, f4, f5, f6, f7, f8, f9, f10, f11, f12, p1, hf⟩ := pa_r (o := (upd (upd (upd (upd (upd (upd (upd (upd (upd (upd (upd oO 13 y.2.1) 14 y.2.2.1) 15 y.2.2.2.1) 16 y.2.2.2.2.1) 17 y.2.2.2.2.2.1) 18 y.2.2.2.2.2.2.1) 23 0) 24 x24) 25 x25) 28 1) 29 x)) (a := (va_up (va_up (va_up (va_up (va_up (va_up (va_up (va_up (va_up (va_up (va_up (va_up (va_up (va_up (va_up (va_up aO 1 y.2.2.2.2.2.2.2.1) 2 y.2.2.2.2.2.2.2.2.1) 3 y.2.2.2.2.2.2.2.2.2.1) 4 y.2.2.2.2.2.2.2.2.2.2.1) 5 y.2.2.2.2.2.2.2.2.2.2.2.1) 6 y.2.2.2.2.2.2.2.2.2.2.2.2.1) 7 y.2.2.2.2.2.2.2.2.2.2.2.2.2.1) 8 y.2.2.2.2.2.2.2.2.2.2.2.2.2.2.1) 9 y.2.2.2.2.2.2.2.2.2.2.2.2.2.2.2.1) 10 y.2.2.2.2.2.2.2.2.2.2.2.2.2.2.2.2.1) 11 y.2.2.2.2.2.2.2.2.2.2.2.2.2.2.2.2.2.1) 12 y.2.2.2.2.2.2.2.2.2.2.2.2.2.2.2.2.2.2) 20 w20) 21 w21) 22 w22) 26 K)) (s := 1) (by omega)
  have p3 := Eq.symm p1
  refine ⟨x', f1, f2, f3, f4, f5, f6, f7, f8, f9, f10, f11, f12, ?_, hf⟩
  exact eX7_train_9 oO aO v x24 x25 (mk21 oO aO x K) w20 w21 w22 n (A 10) (A 11) (A 12) (A 1) (A 2) (A 3) (A 4) (A 5) (A 6) (A 7) (A 8) (A 9) (O 13) (O 14) (O 15) (O 16) (O 17) (O 18) v2 y _ _ _ _ rfl ey p3 rfl rfl g hy
end TL
/-- the places of the statements -/
noncomputable def pl (fN : Nat → Int32) (nN : Int32) : Nat → Nat
  | 0 => 0
  | i + 1 => (F_X1_behindStatement fN nN (nI (pl fN nN i))).toNatClampNeg
/-- c statements are read -/
def gd (fN : Nat → Int32) (nN : Int32) (c : Nat) (w20 w21 w22 : Nat → Int32) : Prop := ∀ i, i < c → F_X1_behindStatement fN nN (nI (pl fN nN i)) = nI (pl fN nN (i + 1)) ∧ pl fN nN i + 3 ≤ pl fN nN (i + 1) ∧ (pl fN nN (i + 1) : Int) ≤ nN.toInt ∧ w20 i = F_X1_letterAt fN nN (nI (pl fN nN i)) ∧ w21 i = nI (pl fN nN i) ∧ sd fN nN (pl fN nN i) (4 * i) w22
theorem gd_len {fN : Nat → Int32} {nN : Int32} {c : Nat} {w20 w21 w22 : Nat → Int32} (h : gd fN nN c w20 w21 w22) : ∀ i, i ≤ c → 3 * i ≤ pl fN nN i := by
  intro i
  induction i with
  | zero => intro _; omega
  | succ i ih =>
    intro hi
    have h1 := ih (by omega)
    have h2 := (h i (by omega)).2.1
    omega
theorem gd_le {fN : Nat → Int32} {nN : Int32} {c : Nat} {w20 w21 w22 : Nat → Int32} (h : gd fN nN c w20 w21 w22) (hN : nN.toInt ≤ 96) : ∀ i, i ≤ c → pl fN nN i ≤ 96 := by
  intro i hi
  match i, hi with
  | 0, _ => exact Nat.zero_le _
  | i + 1, hi =>
    have := (h i (by omega)).2.2.1
    omega
theorem m1_m1 {f : Nat} (h : f ≤ 200) : (-1 : Int32) - (-1 - nI f) = nI f := Int32.toInt_inj.mp (by
  have e1 : (-1 - nI f).toInt = -1 - (f : Int) := (i_sub rfl (by rw [nI_toInt (by omega), show (-1 : Int32).toInt = -1 from rfl]; omega) (by rw [nI_toInt (by omega), show (-1 : Int32).toInt = -1 from rfl]; omega)).trans (by rw [nI_toInt (by omega), show (-1 : Int32).toInt = -1 from rfl])
  rw [i_sub (x := -1 - (-1 - nI f)) rfl (by rw [e1, show (-1 : Int32).toInt = -1 from rfl]; omega) (by rw [e1, show (-1 : Int32).toInt = -1 from rfl]; omega), e1, nI_toInt (by omega), show (-1 : Int32).toInt = -1 from rfl]
  omega)
theorem m1_neg {f : Nat} (h : f ≤ 200) : ¬ (0 : Int32) ≤ -1 - nI f := fun q => by
  have := i_le q
  rw [i_sub (x := -1 - nI f) rfl (by rw [nI_toInt (by omega), show (-1 : Int32).toInt = -1 from rfl]; omega) (by rw [nI_toInt (by omega), show (-1 : Int32).toInt = -1 from rfl]; omega), nI_toInt (by omega), show (-1 : Int32).toInt = -1 from rfl, show (0 : Int32).toInt = 0 from rfl] at this
  omega
theorem ff_s {fN : Nat → Int32} {nN : Int32} {f P c : Nat} (hc : c < 90) (hP : P < 1000) : F_X1_formFault_L4 fN nN (f + 1) (nI P) (nI c) = if c = 0 ∨ (P : Int) < nN.toInt then (if 0 ≤ F_X1_behindStatement fN nN (nI P) then F_X1_formFault_L4 fN nN f (F_X1_behindStatement fN nN (nI P)) (nI (c + 1)) else -1 - F_X1_behindStatement fN nN (nI P)) else -9 := by
  rw [F_X1_formFault_L4, if_neg (show ¬ (96 : Int32) ≤ nI c from nI_ge (b := 96) (by omega) (by omega))]
  dsimp only
  rw [nI_1]
  by_cases c0 : c = 0
  · rw [if_pos (show nI c = 0 by rw [c0]; rfl), if_pos (Or.inl c0)]
  · rw [if_neg (nI_ne0 (by omega) (by omega))]
    by_cases g : nN ≤ nI P
    · have := i_le g
      rw [nI_toInt (by omega)] at this
      rw [if_pos g, if_neg (by omega)]
    · have := i_nle g
      rw [nI_toInt (by omega)] at this
      rw [if_neg g, if_pos (Or.inr this)]
/-- the form: both loops together -/
theorem fl {fN : Nat → Int32} {nN : Int32} {oO : Nat → Int32} {aO : Nat → Nat → Int32} (hT : tO fN nN oO aO) : ∀ (k c : Nat), c + k = 33 → ∀ (fc fr : Nat) (w20 w21 w22 : Nat → Int32), k < fc → k + 1 < fr → gd fN nN c w20 w21 w22 → (∃ (c' fr' : Nat) (w20' w21' w22' : Nat → Int32), (0 < c' ∧ c' ≤ 32) ∧ gd fN nN c' w20' w21' w22' ∧ nN.toInt ≤ (pl fN nN c' : Int) ∧ F_X1_formFault_L4 fN nN fc (nI (pl fN nN c)) (nI c) = -9 ∧ tl oO aO fr w20 w21 w22 (nI (pl fN nN c)) (nI c) 1 = tl oO aO (fr' + 1) w20' w21' w22' (nI (pl fN nN c')) (nI c') 1) ∨ (∃ (f fr' : Nat) (x25 : Int32) (w20' w21' w22' : Nat → Int32), f ≤ 200 ∧ F_X1_formFault_L4 fN nN fc (nI (pl fN nN c)) (nI c) = nI f ∧ tl oO aO fr w20 w21 w22 (nI (pl fN nN c)) (nI c) 1 = tl oO aO (fr' + 1) w20' w21' w22' (nI f) x25 0) := by
  have hN : nN.toInt ≤ 96 := by rw [hT.1]; exact hT.2.1.2
  intro k
  induction k with
  | zero =>
    intro c hk fc fr w20 w21 w22 _ _ hg
    have h1 := gd_len hg c (Nat.le_refl c)
    have h2 := gd_le hg hN c (Nat.le_refl c)
    exact absurd h1 (by omega)
  | succ k ih =>
    intro c hk fc fr w20 w21 w22 hfc hfr hg
    have h1 := gd_len hg c (Nat.le_refl c)
    have h2 := gd_le hg hN c (Nat.le_refl c)
    match fc, fr, hfc, hfr with
    | fc + 1, fr + 1, hfc, hfr =>
      have ff := ff_s (fN := fN) (nN := nN) (f := fc) (P := pl fN nN c) (c := c) (by omega) (by omega)
      by_cases g : c = 0 ∨ (pl fN nN c : Int) < nN.toInt
      · rw [if_pos g] at ff
        obtain ⟨s, es⟩ : ∃ s, s = F_X7_statement (tSo oO (oO 23) (nI (pl fN nN c)) (nI c)) (tSa aO w20 w21 w22) := ⟨_, rfl⟩
        have hs := st_eq (o := tSo oO (oO 23) (nI (pl fN nN c)) (nI c)) (a := tSa aO w20 w21 w22) (P := pl fN nN c) (c := c) ⟨hT.1, hT.2.1, hT.2.2⟩ h2 (by omega) rfl rfl
        rw [← es] at hs
        have hgo : nI (pl fN nN c) < oO 23 ∨ nI c = 0 := by
          rcases g with g | g
          · exact Or.inr (by rw [g]; rfl)
          · exact Or.inl (Int32.lt_iff_toInt_lt.mpr (by rw [nI_toInt (by omega), ← hT.1]; exact g))
        obtain ⟨t0, t1⟩ := tl_go (n := fr) (v := 1) (by decide) hgo es
        rcases hs with ⟨e, s1, s2, s3, s4, s5, s6, s7, s8, s9⟩ | ⟨f, s1, s2, s3, s4⟩
        · have s3' : (e : Int) ≤ nN.toInt := by rw [hT.1]; exact s3
          have hpl : pl fN nN (c + 1) = e := by
            show (F_X1_behindStatement fN nN (nI (pl fN nN c))).toNatClampNeg = e
            rw [s1, nI_clamp (by omega)]
          have hg' : gd fN nN (c + 1) s.2.2.1 s.2.2.2.1 s.2.2.2.2 := fun i hi => by
            by_cases q : i = c
            · subst q
              refine ⟨by rw [hpl]; exact s1, by rw [hpl]; exact s2, by rw [hpl]; exact s3', ?_, ?_, s8⟩
              · rw [s6, pk_us]
              · rw [s7, pk_us]
            · obtain ⟨b1, b2, b3, b4, b5, b6⟩ := hg i (by omega)
              refine ⟨b1, b2, b3, ?_, ?_, sd_c b6 (fun j hj => s9 j (by omega))⟩
              · rw [s6, pk_un q]
                exact b4
              · rw [s7, pk_un q]
                exact b5
          have t := t1 (by rw [s4]; decide)
          rw [s5, s4, nI_1, ← hpl] at t
          rw [s1, if_pos (nI_pos' (by omega)), ← hpl] at ff
          rw [ff, t]
          exact ih (c + 1) (by omega) fc fr _ _ _ (by omega) (by omega) hg'
        · have t := t0 s3
          rw [s4, s3] at t
          rw [s2, if_neg (m1_neg s1), m1_m1 s1] at ff
          obtain ⟨fr', rfl⟩ : ∃ fr', fr = fr' + 1 := ⟨fr - 1, by omega⟩
          exact Or.inr ⟨f, fr', _, _, _, _, s1, ff, t⟩
      · rw [if_neg g] at ff
        exact Or.inl ⟨c, fr, w20, w21, w22, by omega, hg, by omega, ff, rfl⟩
