/-! train: the sense, both loops together -/
theorem ba_s {fN : Nat → Int32} {nN c1 c3 : Int32} {wW : Nat → Nat} {c2 : Nat → Nat → Int32} {c4 : Nat → Int32} {c5 : Nat → Nat → Int32} {f P i : Nat} {L q : Nat → Nat → Int32} {g : Nat → Int32} {nC n : Int32} (hi : i < 90) (hP : P < 900) (hT : (P : Int) < nN.toInt) {z : Int32 × (Nat → Nat → Int32) × Int32 × (Nat → Int32) × (Nat → Nat → Int32)} (ez : z = F_X1_bring fN nN nC wW q n g L (nI P)) : F_X1_bringAll_L4 fN nN c1 wW c2 c3 c4 c5 (f + 1) L g nC n q (nI P) (nI i) = F_X1_bringAll_L4 fN nN c1 wW c2 c3 c4 c5 f z.2.2.2.2 z.2.2.2.1 z.1 z.2.2.1 z.2.1 (F_X1_behindStatement fN nN (nI P)) (nI (i + 1)) := by
  rw [F_X1_bringAll_L4, if_neg (show ¬ (96 : Int32) ≤ nI i from nI_ge (b := 96) (by omega) (by omega)), if_neg (nI_nl0 (by omega)), if_neg (show ¬ nN ≤ nI P from fun q => by have := i_le q; rw [nI_toInt (by omega)] at this; omega)]
  dsimp only
  rw [← ez, nI_1]
theorem sd_lt {fN : Nat → Int32} {nN : Int32} {P b : Nat} {W : Nat → Int32} (h : sd fN nN P b W) (hP : P < 900) : (P : Int) < nN.toInt := by
  refine lt_in (fN := fN) (by omega) ?_
  rcases h with ⟨e, _⟩ | ⟨e, _⟩ | ⟨e, _⟩ | ⟨e, _⟩ <;> (rw [e]; decide)
theorem sl {fN : Nat → Int32} {nN : Int32} {oO : Nat → Int32} {aO : Nat → Nat → Int32} {x24 x v : Int32} {K w20 w21 w22 : Nat → Int32} {c : Nat} (hg : gd fN nN c w20 w21 w22) (hN : nN.toInt ≤ 96) (he : nN.toInt ≤ (pl fN nN c : Int)) (hc : c ≤ 32) {p0 p1 c1 c3 : Int32} {wW : Nat → Nat} {c2 : Nat → Nat → Int32} {c4 : Nat → Int32} {c5 : Nat → Nat → Int32} : ∀ (m i : Nat), i + m = c → ∀ (fs fb fr : Nat), m < fs → m < fb → m < fr → ∀ (q : Nat → Nat → Int32) (n : Int32) (g : Nat → Int32) (nC : Int32) (L : Nat → Nat → Int32) (O : Nat → Int32) (A : Nat → Nat → Int32), SR q n g nC L O A → DR O A → (∀ j : Nat, j < 4 → L j 7 = 0 ∨ L j 7 = 1) →
    (F_X1_senseFault_L11 fN nN p0 p1 fs n nC (nI (pl fN nN i)) (nI i) = -9 ∧ ∃ (fr' : Nat) (q' : Nat → Nat → Int32) (n' : Int32) (g' : Nat → Int32) (nC' : Int32) (L' : Nat → Nat → Int32) (O' : Nat → Int32) (A' : Nat → Nat → Int32), F_X1_bringAll_L4 fN nN c1 wW c2 c3 c4 c5 fb L g nC n q (nI (pl fN nN i)) (nI i) = (nI c, nC', q', n', g', L') ∧ tm oO aO v x24 (nI c) x K w20 w21 w22 fr O A (nI i) = tm oO aO v x24 (nI c) x K w20 w21 w22 (fr' + 1) O' A' (nI c) ∧ SR q' n' g' nC' L' O' A' ∧ DR O' A' ∧ ∀ j : Nat, j < 4 → L' j 7 = 0 ∨ L' j 7 = 1) ∨
    (∃ (j fr' : Nat) (O' : Nat → Int32) (A' : Nat → Nat → Int32) (y : Int32 × Int32 × Int32 × Int32 × Int32 × Int32 × Int32 × (Nat → Int32) × (Nat → Int32) × (Nat → Int32) × (Nat → Int32) × (Nat → Int32) × (Nat → Int32) × (Nat → Int32) × (Nat → Int32) × (Nat → Int32) × (Nat → Int32) × (Nat → Int32) × (Nat → Int32)), j < c ∧ F_X1_senseFault_L11 fN nN p0 p1 fs n nC (nI (pl fN nN i)) (nI i) = nI (pl fN nN j) ∧ tm oO aO v x24 (nI c) x K w20 w21 w22 fr O A (nI i) = tm oO aO v x24 (nI c) x K w20 w21 w22 (fr' + 1) O' A' (nI j) ∧ y = F_X7_comes (uSo oO x24 (nI c) x O') (uSa aO K w20 w21 w22 A') (nI j) ∧ y.1 = 0) := by
  intro m
  induction m with
  | zero =>
    intro i hi fs fb fr hfs hfb hfr q n g nC L O A hS hD hz
    match fs, fb, fr, hfs, hfb, hfr with
    | fs + 1, fb + 1, fr + 1, _, _, _ =>
      have hic : i = c := by omega
      subst hic
      have h96 := gd_le hg hN i (Nat.le_refl i)
      have hge : nN ≤ nI (pl fN nN i) := Int32.le_iff_toInt_le.mpr (by rw [nI_toInt (by omega)]; exact he)
      refine Or.inl ⟨?_, fr, q, n, g, nC, L, O, A, ?_, rfl, hS, hD, hz⟩
      · rw [F_X1_senseFault_L11, if_neg (show ¬ (96 : Int32) ≤ nI i from nI_ge (b := 96) (by omega) (by omega)), if_neg (nI_nl0 (by omega)), if_pos hge]
      · rw [F_X1_bringAll_L4, if_neg (show ¬ (96 : Int32) ≤ nI i from nI_ge (b := 96) (by omega) (by omega)), if_neg (nI_nl0 (by omega)), if_pos hge]
  | succ m ih =>
    intro i hi fs fb fr hfs hfb hfr q n g nC L O A hS hD hz
    match fs, fb, fr, hfs, hfb, hfr with
    | fs + 1, fb + 1, fr + 1, hfs, hfb, hfr =>
      have h96 := gd_le hg hN i (by omega)
      obtain ⟨b1, b2, b3, b4, b5, b6⟩ := hg i (by omega)
      have hlt := sd_lt b6 (by omega)
      obtain ⟨y, ey⟩ : ∃ y, y = F_X7_comes (uSo oO x24 (nI c) x O) (uSa aO K w20 w21 w22 A) (nI i) := ⟨_, rfl⟩
      obtain ⟨z, ez⟩ : ∃ z, z = F_X1_bring fN nN nC wW q n g L (nI (pl fN nN i)) := ⟨_, rfl⟩
      have hS' : SR q n g nC L (uSo oO x24 (nI c) x O) (uSa aO K w20 w21 w22 A) := ⟨⟨hS.1.1, hS.1.2.1, fun j hj => hS.1.2.2 j hj⟩, ⟨⟨hS.2.1.1.1, hS.2.1.1.2.1, hS.2.1.1.2.2.1, hS.2.1.1.2.2.2⟩, hS.2.1.2⟩, hS.2.2.1, fun k hk => hS.2.2.2 k hk⟩
      have hD' : DR (uSo oO x24 (nI c) x O) (uSa aO K w20 w21 w22 A) := ⟨hD.1, hD.2.1, fun l hl => hD.2.2.1 l hl, ⟨hD.2.2.2.1.1, hD.2.2.2.1.2.1, hD.2.2.2.1.2.2⟩, fun k hk => hD.2.2.2.2 k hk⟩
      have hge : ¬ nI c ≤ nI i := nI_ge (by omega) (by omega)
      rcases cm (P := pl fN nN i) (i := i) hS' hD' hz (by omega) (by omega) hlt b4 b6 ey ez with ⟨y1, y2⟩ | ⟨y1, y2, y3, y4, y5⟩
      · exact Or.inr ⟨i, fr, O, A, y, by omega, y2 p0 p1 fs i (by omega), rfl, ey, y1⟩
      · have t := tm_step (oO := oO) (aO := aO) (n := fr) (w20 := w20) (w21 := w21) (w22 := w22) (K := K) (x24 := x24) (x25 := nI c) (x := x) (v := v) (v2 := nI i) (O := O) (A := A) hge ey y1
        rw [nI_1] at t
        have s := y2 p0 p1 fs i (by omega)
        rw [b1] at s
        have b := ba_s (c1 := c1) (c2 := c2) (c3 := c3) (c4 := c4) (c5 := c5) (f := fb) (i := i) (by omega) (by omega) hlt ez
        rw [b1] at b
        rw [t, s, b]
        exact ih (i + 1) (by omega) fs fb fr (by omega) (by omega) (by omega) _ _ _ _ _ _ _ y3 y4 y5
theorem kp_2 {K F : Nat → Int32} (h : ∀ j, j < 80 → K j = F j) : (∀ t, t < 6 → kO K (13 + t) = kO F (13 + t)) ∧ (∀ t j, t < 4 → j < 8 → kA K (1 + t) j = kA F (1 + t) j) ∧ ∀ t j, t < 8 → j < 4 → kA K (5 + t) j = kA F (5 + t) j := by
  refine ⟨fun t ht => ?_, fun t j ht hj => ?_, fun t j ht hj => ?_⟩
  · rw [kO_v, kO_v, h _ (by omega)]
  · rw [kA_8 ht, kA_8 ht, h _ (by omega)]
  · rw [kA_4, kA_4, h _ (by omega)]
set_option maxHeartbeats 4000000 in
theorem t_train {oM : Nat → Int32} {nC : Int32} {qS : Nat → Nat → Int32} {nS : Int32} {gB : Nat → Int32} {LP : Nat → Nat → Int32} {fN : Nat → Int32} {nN : Int32} {fZ : Nat → Int32} {fY : Nat → Int32} {nE : Int32} {qU : Nat → Nat → Int32} {nU : Int32} {gH : Nat → Int32} {LQ : Nat → Nat → Int32} {oO : Nat → Int32} {aO : Nat → Nat → Int32} {wW : Nat → Nat} (h : INV oM nC qS nS gB LP fN nN fZ fY nE qU nU gH LQ oO aO) {z : Int32 × Int32 × Int32 × (Nat → Nat → Int32) × Int32 × (Nat → Int32) × (Nat → Nat → Int32)} (ez : z = F_X6_train oM fN nN nC wW qS nS gB LP) {y : Int32 × Int32 × Int32 × Int32 × Int32 × Int32 × Int32 × Int32 × Int32 × Int32 × Int32 × Int32 × (Nat → Int32) × (Nat → Int32) × (Nat → Int32) × (Nat → Int32) × (Nat → Int32) × (Nat → Int32) × (Nat → Int32) × (Nat → Int32) × (Nat → Int32) × (Nat → Int32) × (Nat → Int32) × (Nat → Int32) × (Nat → Int32) × (Nat → Int32) × (Nat → Int32) × (Nat → Int32)} (ey : y = F_X7_train oO aO) : z.1 = y.1 ∧ INV oM z.2.2.1 z.2.2.2.1 z.2.2.2.2.1 z.2.2.2.2.2.1 z.2.2.2.2.2.2 fN z.2.1 fZ fY nE qU nU gH LQ (upd (upd (upd (upd (upd (upd (upd (upd (upd (upd (upd oO 13 y.2.1) 14 y.2.2.1) 15 y.2.2.2.1) 16 y.2.2.2.2.1) 17 y.2.2.2.2.2.1) 18 y.2.2.2.2.2.2.1) 23 y.2.2.2.2.2.2.2.1) 24 y.2.2.2.2.2.2.2.2.1) 25 y.2.2.2.2.2.2.2.2.2.1) 28 y.2.2.2.2.2.2.2.2.2.2.1) 29 y.2.2.2.2.2.2.2.2.2.2.2.1) (va_up (va_up (va_up (va_up (va_up (va_up (va_up (va_up (va_up (va_up (va_up (va_up (va_up (va_up (va_up (va_up aO 1 y.2.2.2.2.2.2.2.2.2.2.2.2.1) 2 y.2.2.2.2.2.2.2.2.2.2.2.2.2.1) 3 y.2.2.2.2.2.2.2.2.2.2.2.2.2.2.1) 4 y.2.2.2.2.2.2.2.2.2.2.2.2.2.2.2.1) 5 y.2.2.2.2.2.2.2.2.2.2.2.2.2.2.2.2.1) 6 y.2.2.2.2.2.2.2.2.2.2.2.2.2.2.2.2.2.1) 7 y.2.2.2.2.2.2.2.2.2.2.2.2.2.2.2.2.2.2.1) 8 y.2.2.2.2.2.2.2.2.2.2.2.2.2.2.2.2.2.2.2.1) 9 y.2.2.2.2.2.2.2.2.2.2.2.2.2.2.2.2.2.2.2.2.1) 10 y.2.2.2.2.2.2.2.2.2.2.2.2.2.2.2.2.2.2.2.2.2.1) 11 y.2.2.2.2.2.2.2.2.2.2.2.2.2.2.2.2.2.2.2.2.2.2.1) 12 y.2.2.2.2.2.2.2.2.2.2.2.2.2.2.2.2.2.2.2.2.2.2.2.1) 20 y.2.2.2.2.2.2.2.2.2.2.2.2.2.2.2.2.2.2.2.2.2.2.2.2.1) 21 y.2.2.2.2.2.2.2.2.2.2.2.2.2.2.2.2.2.2.2.2.2.2.2.2.2.1) 22 y.2.2.2.2.2.2.2.2.2.2.2.2.2.2.2.2.2.2.2.2.2.2.2.2.2.2.1) 26 y.2.2.2.2.2.2.2.2.2.2.2.2.2.2.2.2.2.2.2.2.2.2.2.2.2.2.2) := by
  obtain ⟨hS, hD, hY, hN, hR, h36, hK, hz, hzq⟩ := id h
  have hT : tO fN nN oO aO := hN
  have hN96 : nN.toInt ≤ 96 := by rw [hN.1]; exact hN.2.1.2
  have ey0 : y = tl oO aO ((200 * (1 : Int32).toInt.toNat + ((oO 23).toInt - (0 : Int32).toInt).toNat) + 1) (aO 20) (aO 21) (aO 22) (nI (pl fN nN 0)) (nI 0) 1 := ey
  have hfu : 33 + 1 < (200 * (1 : Int32).toInt.toNat + ((oO 23).toInt - (0 : Int32).toInt).toNat) + 1 := by
    rw [show (1 : Int32).toInt.toNat = 1 from rfl]
    omega
  rcases fl hT 33 0 rfl ((((96 : Int32).toInt - (0 : Int32).toInt).toNat) + 1) _ (aO 20) (aO 21) (aO 22) (by decide) hfu (fun i hi => absurd hi (Nat.not_lt_zero i)) with ⟨c, fr, w20, w21, w22, ⟨hc0, hc⟩, hg, he, r1, r2⟩ | ⟨f, fr, x25, w20, w21, w22, hf, r1, r2⟩
  · have r1' : F_X1_formFault fN nN = -9 := r1
    have hge : ¬ nI (pl fN nN c) < oO 23 := fun k => by
      have := i_lt k
      rw [← hN.1, nI_toInt (by have := gd_le hg hN96 c (Nat.le_refl c); omega)] at this
      omega
    obtain ⟨x, K, t1, t2⟩ := tl_end (oO := oO) (aO := aO) (n := fr) (w20 := w20) (w21 := w21) (w22 := w22) (x24 := nI (pl fN nN c)) (x25 := nI c) (v := 1) (by decide) hge (nI_ne0 hc0 (by omega))
    have hk80 : ∀ j, j < 80 → K j = aO 26 j := fun j hj => by
      rw [t2 j, if_neg (by omega)]
    have hkc := kp_2 hk80
    have hkk : oM 9 = oO 27 ∧ (oO 27 = 0 ∨ (oO 27 = 1 ∧ SR qU nU gH nE LQ (kO K) (kA K) ∧ DR (kO K) (kA K))) := by
      refine ⟨hK.1, ?_⟩
      rcases hK.2 with k | ⟨k1, k2, k3⟩
      · exact Or.inl k
      · exact Or.inr ⟨k1, k2.cp k3.2.1.2 hkc.1 hkc.2.1 hkc.2.2, k3.cp hkc.1 hkc.2.1 hkc.2.2⟩
    have hfr : c < ((nI c).toInt - (0 : Int32).toInt).toNat + 1 := by
      rw [nI_toInt (by omega), show (0 : Int32).toInt = 0 from rfl]
      omega
    rcases sl (oO := oO) (aO := aO) (x24 := nI (pl fN nN c)) (x := x) (v := 1) (K := K) hg hN96 he hc (p0 := nS) (p1 := nC) (c1 := nC) (c3 := nS) (wW := wW) (c2 := qS) (c4 := gB) (c5 := LP) c 0 (by omega) ((((96 : Int32).toInt - (0 : Int32).toInt).toNat) + 1) ((((96 : Int32).toInt - (0 : Int32).toInt).toNat) + 1) _ (show c < 97 by omega) (show c < 97 by omega) hfr qS nS gB nC LP oO aO hS hD hz with ⟨u1, fr', q', n', g', nC', L', O', A', u2, u3, u4, u5, u6⟩ | ⟨j, fr', O', A', y', u1, u2, u3, u4, u5⟩
    · have u1' : F_X1_senseFault fN nN nS nC = -9 := u1
      have u2' : F_X1_bringAll fN nN nC wW qS nS gB LP = (nI c, nC', q', n', g', L') := u2
      have e1 : z = (nI c, 0, nC', q', n', g', L') := by
        rw [ez]
        unfold F_X6_train F_X6_takeTrain
        dsimp only
        rw [r1', if_pos rfl, u1', if_pos rfl, u2']
      have e2 := ((ey0.trans r2).trans t1).trans (u3.trans (tm_end (nI_le (Nat.le_refl c) (by omega))))
      clear ez ey ey0 r1 r2 t1 u1 u2 u3 u1' u2' r1' hfu
      subst e1 e2
      exact ⟨rfl, ⟨⟨u4.1.1, u4.1.2.1, fun j hj => u4.1.2.2 j hj⟩, ⟨⟨u4.2.1.1.1, u4.2.1.1.2.1, u4.2.1.1.2.2.1, u4.2.1.1.2.2.2⟩, u4.2.1.2⟩, u4.2.2.1, fun k hk => u4.2.2.2 k hk⟩, ⟨u5.1, u5.2.1, fun l hl => u5.2.2.1 l hl, ⟨u5.2.2.2.1.1, u5.2.2.2.1.2.1, u5.2.2.2.1.2.2⟩, fun k hk => u5.2.2.2.2 k hk⟩, hY, ⟨rfl, ⟨Int.le_refl 0, show (0 : Int) ≤ 96 by decide⟩, fun j hj => absurd hj (show ¬ (j : Int) < 0 by omega)⟩, hR, h36, hkk, u6, hzq⟩
    · have h9 := gd_le hg hN96 j (by omega)
      have u2' : F_X1_senseFault fN nN nS nC = nI (pl fN nN j) := u2
      have e1 : z = (-2000 - nI (pl fN nN j), 0, nC, qS, nS, gB, LP) := by
        rw [ez]
        unfold F_X6_train F_X6_takeTrain
        dsimp only
        rw [r1', if_pos rfl, u2', if_neg (eo_n9 (by omega))]
      obtain ⟨x1, f1, f2, f3, f4, f5, f6, f7, f8, f9, f10, f11, f12, v1, g1, g2, g3, g4, g5, g6, g7, g8, g9, g10, g11, g12⟩ := tm_bad (oO := oO) (aO := aO) (n := fr') (w20 := w20) (w21 := w21) (w22 := w22) (K := K) (x24 := nI (pl fN nN c)) (x25 := nI c) (x := x) (v := 1) (v2 := nI j) (O := O') (A := A') (nI_ge (by omega) (by omega)) u4 u5
      have e2 := ((ey0.trans r2).trans t1).trans (u3.trans v1)
      rw [nI_clamp (show j < 2 ^ 31 by omega), (hg j u1).2.2.2.2.1] at e2
      have hk2 : ∀ j, j < 70 → K (80 * 1 + j) = img oO aO j := fun j hj => by
        rw [t2 (80 * 1 + j), if_pos (by omega), show 80 * 1 + j - 80 = j by omega]
      clear ez ey ey0 r1 r2 t1 u2 u3 v1 u2' r1' hfu u4 u5
      subst e1 e2
      obtain ⟨o', eo⟩ : ∃ o', o' = (upd (upd (upd (upd (upd (upd (upd (upd (upd (upd (upd oO 13 (K (80 * 1 + 64))) 14 (K (80 * 1 + 65))) 15 (K (80 * 1 + 66))) 16 (K (80 * 1 + 67))) 17 (K (80 * 1 + 68))) 18 (K (80 * 1 + 69))) 23 0) 24 (nI (pl fN nN c))) 25 (nI c)) 28 0) 29 x1) := ⟨_, rfl⟩
      obtain ⟨a', ea⟩ : ∃ a', a' = (va_up (va_up (va_up (va_up (va_up (va_up (va_up (va_up (va_up (va_up (va_up (va_up (va_up (va_up (va_up (va_up aO 1 f1) 2 f2) 3 f3) 4 f4) 5 f5) 6 f6) 7 f7) 8 f8) 9 f9) 10 f10) 11 f11) 12 f12) 20 w20) 21 w21) 22 w22) 26 K) := ⟨_, rfl⟩
      have ho : ∀ t, t < 6 → o' (13 + t) = oO (13 + t) := fun t ht => by
        rw [← img_o (o := oO) (a := aO) t ht, ← hk2 _ (by omega), eo]
        match t, ht with
        | 0, _ => rfl
        | 1, _ => rfl
        | 2, _ => rfl
        | 3, _ => rfl
        | 4, _ => rfl
        | 5, _ => rfl
      have ha : ∀ t j, t < 4 → j < 8 → a' (1 + t) j = aO (1 + t) j := fun t j ht hj => by
        rw [← img_8 (o := oO) (a := aO) t j ht hj, ← hk2 _ (by omega), ea]
        match t, ht with
        | 0, _ => exact (g1 j hj).trans (congrArg K (by omega))
        | 1, _ => exact (g2 j hj).trans (congrArg K (by omega))
        | 2, _ => exact (g3 j hj).trans (congrArg K (by omega))
        | 3, _ => exact (g4 j hj).trans (congrArg K (by omega))
      have hb : ∀ t j, t < 8 → j < 4 → a' (5 + t) j = aO (5 + t) j := fun t j ht hj => by
        rw [← img_4 (o := oO) (a := aO) t j ht hj, ← hk2 _ (by omega), ea]
        match t, ht with
        | 0, _ => exact (g5 j hj).trans (congrArg K (by omega))
        | 1, _ => exact (g6 j hj).trans (congrArg K (by omega))
        | 2, _ => exact (g7 j hj).trans (congrArg K (by omega))
        | 3, _ => exact (g8 j hj).trans (congrArg K (by omega))
        | 4, _ => exact (g9 j hj).trans (congrArg K (by omega))
        | 5, _ => exact (g10 j hj).trans (congrArg K (by omega))
        | 6, _ => exact (g11 j hj).trans (congrArg K (by omega))
        | 7, _ => exact (g12 j hj).trans (congrArg K (by omega))
      have hS' := hS.cp hD.2.1.2 ho ha hb
      have hD' := hD.cp ho ha hb
      rw [eo, ea] at hS' hD'
      exact ⟨rfl, hS', hD', hY, ⟨rfl, ⟨Int.le_refl 0, show (0 : Int) ≤ 96 by decide⟩, fun j hj => absurd hj (show ¬ (j : Int) < 0 by omega)⟩, hR, h36, hkk, hz, hzq⟩
  · have r1' : F_X1_formFault fN nN = nI f := r1
    have e1 : z = (-1000 - nI f, 0, nC, qS, nS, gB, LP) := by
      rw [ez]
      unfold F_X6_train F_X6_takeTrain
      dsimp only
      rw [r1', if_neg (eo_n9 (by omega))]
    have e2 := (ey0.trans r2).trans tl_bad
    clear ez ey ey0 r1 r2 r1' hfu
    subst e1 e2
    exact ⟨rfl, ⟨⟨hS.1.1, hS.1.2.1, fun j hj => hS.1.2.2 j hj⟩, ⟨⟨hS.2.1.1.1, hS.2.1.1.2.1, hS.2.1.1.2.2.1, hS.2.1.1.2.2.2⟩, hS.2.1.2⟩, hS.2.2.1, fun k hk => hS.2.2.2 k hk⟩, ⟨hD.1, hD.2.1, fun l hl => hD.2.2.1 l hl, ⟨hD.2.2.2.1.1, hD.2.2.2.1.2.1, hD.2.2.2.1.2.2⟩, fun k hk => hD.2.2.2.2 k hk⟩, hY, ⟨rfl, ⟨Int.le_refl 0, show (0 : Int) ≤ 96 by decide⟩, fun j hj => absurd hj (show ¬ (j : Int) < 0 by omega)⟩, hR, h36, hK, hz, hzq⟩
