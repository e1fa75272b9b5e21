/-! chance -/
theorem t_chance {oM : Nat → Int32} {nC : Int32} {qS : Nat → Nat → Int32} {nS : Int32} {gB : Nat → Int32} {LP : Nat → Nat → Int32} {fN : Nat → Int32} {nN : Int32} {fZ : Nat → Int32} {fY : Nat → Int32} {nE : Int32} {qU : Nat → Nat → Int32} {nU : Int32} {gH : Nat → Int32} {LQ : Nat → Nat → Int32} {oO : Nat → Int32} {aO : Nat → Nat → Int32} {wW : Nat → Nat} {gT : Nat → Int32} {fK : Nat → Int32} {p0 : Int32} {p1 : Int32} {p2 : Int32} (h : INV oM nC qS nS gB LP fN nN fZ fY nE qU nU gH LQ oO aO) {z : Int64 × (Nat → Int32) × (Nat → Int32) × (Nat → Int32)} (ez : z = F_X6_chance oM nC wW qS nS gB gT fK fZ fY LP p0 p1 p2) {y : Int64 × Int32 × Int32 × Int32 × Int32 × Int32 × Int32 × Int32 × (Nat → Int32)} (ey : y = F_X7_chance oO aO p0 p1 p2) : z.1 = y.1 ∧ INV oM nC qS nS gB LP fN nN fZ z.2.2.2 nE qU nU gH LQ (upd (upd (upd (upd (upd (upd (upd oO 30 y.2.1) 31 y.2.2.1) 32 y.2.2.2.1) 33 y.2.2.2.2.1) 34 y.2.2.2.2.2.1) 35 y.2.2.2.2.2.2.1) 36 y.2.2.2.2.2.2.2.1) (va_up aO 0 y.2.2.2.2.2.2.2.2) := by
  have key : ∀ w : Int32, -7 < w.toInt → w.toInt ≤ 0 → z = (4000000000000000000 - (F_X6_refuse oM fY w).1.toInt64, gT, fK, (F_X6_refuse oM fY w).2) → y = ((F_X7_lowest oO aO w).1, oO 30, oO 31, oO 32, oO 33, oO 34, oO 35, oO 36, (F_X7_lowest oO aO w).2) → z.1 = y.1 ∧ INV oM nC qS nS gB LP fN nN fZ z.2.2.2 nE qU nU gH LQ (upd (upd (upd (upd (upd (upd (upd oO 30 y.2.1) 31 y.2.2.1) 32 y.2.2.2.1) 33 y.2.2.2.2.1) 34 y.2.2.2.2.2.1) 35 y.2.2.2.2.2.2.1) 36 y.2.2.2.2.2.2.2.1) (va_up aO 0 y.2.2.2.2.2.2.2.2) := by
    intro w hw1 hw2 e1 e2
    have u := ref_no (M := oM) (o := oO) (a := aO) (w := w) h.2.2.1 hw1 hw2
    clear ez ey
    subst e1 e2
    exact ⟨rfl, h.cg u.2 rfl rfl rfl rfl rfl rfl rfl rfl rfl rfl rfl rfl rfl rfl rfl rfl rfl rfl rfl rfl rfl rfl rfl rfl rfl rfl⟩
  rcases wk_lk (p := p0) (a := aO) h.1.2.2.1 h.2.1.2.1 with ⟨w1, w2, k, hk, hk4, hk1, hkc⟩ | ⟨w1, w2⟩
  · by_cases cb : F_X6_outside p1 0 20 = 0
    · rcases in01 p2 with ⟨c0, c1, c2⟩ | ⟨c0, c1⟩
      · exact key (-2) (by decide) (by decide) (by rw [ez]; unfold F_X6_chance; dsimp only; rw [if_pos w1, if_pos cb, if_neg c1, if_neg c2]) (by rw [ey]; unfold F_X7_chance; dsimp only; rw [if_neg w2, bd_eq, if_pos cb, if_pos c0])
      · have hR := h.2.2.2.2.1
        have hT : oO 45 = nI (oO 45).toInt.toNat := x_nIt hR.2.1.1
        have hTb : (oO 45).toInt.toNat ≤ 12 := by have := hR.2.1; omega
        have hZ : ∀ j, j < (oO 45).toInt.toNat → fZ j = aO 44 j ∧ 0 ≤ (aO 44 j).toInt ∧ (aO 44 j).toInt ≤ 9 := fun j hj => hR.2.2 j (by omega)
        have h01 : ¬ F_X7_isIn p2 0 1 = 0 := by rw [c0]; decide
        have hcl := hc_L (a := aO) (hR.1.trans hT) hT hTb hZ (oO 45).toInt.toNat 0 (by omega) ((((oM 8).toInt - (0 : Int32).toInt).toNat) + 1) ((((oO 45).toInt - (0 : Int32).toInt).toNat) + 1) (by rw [hR.1, show (0 : Int32).toInt = 0 from rfl]; omega) (by rw [show (0 : Int32).toInt = 0 from rfl]; omega)
        have hc2 : (F_X6_rowHasNoColumn oM fZ = 0 ∧ F_X7_areColumns oO aO = 1 ∧ ∀ j, 0 ≤ j → j < (oO 45).toInt.toNat → (aO 44 j).toInt < 4) ∨ (F_X6_rowHasNoColumn oM fZ = 1 ∧ F_X7_areColumns oO aO = 0) := hcl
        rcases hc2 with ⟨d1, d2, d3⟩ | ⟨d1, d2⟩
        · have hb := bd_in cb
          rw [show (0 : Int32).toInt = 0 from rfl, show (20 : Int32).toInt = 20 from rfl] at hb
          obtain ⟨P, hP, eP⟩ : ∃ P : Nat, P ≤ 20 ∧ p1 = nI P := ⟨p1.toInt.toNat, by omega, x_nIt hb.1⟩
          subst hk eP
          have hX : ∀ (g : Nat → Int32) (p x30 x31 x32 x33 x34 x35 x36 : Int32) (v : Int32 × Int32 × Int32 × Int32 × Int32), CY qS nS (upd (F_X0_become g gB) 4 p) (upd (mS (upd (upd (upd (upd (upd (upd (upd oO 30 x30) 31 x31) 32 x32) 33 x33) 34 x34) 35 x35) 36 x36) k v) 36 p) aO k := fun g p x30 x31 x32 x33 x34 x35 x36 v => ⟨⟨h.1.1.1, h.1.1.2.1, fun j hj => h.1.1.2.2 j hj⟩, ⟨h.1.2.1.1.1, h.1.2.1.1.2.1, h.1.2.1.1.2.2.1, h.1.2.1.1.2.2.2⟩, h.2.1, hk1, rfl, h.2.2.2.2.2.1.2⟩
          obtain ⟨w, a1, a2, a3⟩ := ch_L (M := oM) (nC := nC) (wW := wW) (gT0 := gT) (fK0 := fK) (fY := fY) (p2 := p2) (r := F_X6_outside (nI P) 0 20) (r' := F_X6_outside (nI P) 0 20) hk4 (fun g p x30 x31 x32 x33 x34 x35 x36 v => hX g p x30 x31 x32 x33 x34 x35 x36 v) (h.rv hk1) (h.dm hk1) (hR.1.trans hT) hT hTb (fun j hj => ⟨(hZ j hj).1, (hZ j hj).2.1, d3 j (Nat.zero_le j) hj⟩) hP (P + 1) 0 (by omega) ((((nI P).toInt + 1 - (0 : Int32).toInt).toNat) + 1) ((((nI P).toInt + 1 - (0 : Int32).toInt).toNat) + 1) fK gT (oO 30) (oO 31) (oO 32) (oO 33) (oO 34) (oO 35) (oO 36) 0 (by rw [nI_toInt (by omega), show (0 : Int32).toInt = 0 from rfl]; omega) (by rw [nI_toInt (by omega), show (0 : Int32).toInt = 0 from rfl]; omega) (by omega) h.2.2.2.2.2.1.1
          have e1 : z = F_X6_chance_L92 oM nC wW qS nS gB gT fK fZ fY LP (nI k) (nI P) p2 (F_X6_outside (nI P) 0 20) ((((nI P).toInt + 1 - (0 : Int32).toInt).toNat) + 1) fK gT (nI 0) (nI 0) := by
            rw [ez]; unfold F_X6_chance; dsimp only; rw [if_pos w1, if_pos cb]
            rcases c1 with c | c
            · rw [if_pos c, if_pos cb, if_pos d1, if_pos cb, ch_cd]; rfl
            · rw [if_neg (show ¬ p2 = 0 by rw [c]; decide), if_pos c, if_pos cb, if_pos d1, if_pos cb, ch_cf]; rfl
          have e2 : y = F_X7_chance_L79 oO aO (nI k) (nI P) p2 (lN (P + 1)) (F_X6_outside (nI P) 0 20) ((((nI P).toInt + 1 - (0 : Int32).toInt).toNat) + 1) (oO 30) (oO 31) (oO 32) (oO 33) (oO 34) (oO 35) (oO 36) (lN 0) (nI 0) := by
            rw [ey]; unfold F_X7_chance; dsimp only; rw [if_neg w2, bd_eq, if_pos cb, if_neg h01, d2, if_neg (show ¬ (1 : Int32) = 0 by decide), nI_l (by omega), lN_1, ch_m (r := F_X6_outside (nI P) 0 20)]; rfl
          rw [← e1, ← e2] at w
          rw [← e1] at a1
          rw [← e2] at a2 a3
          clear e1 e2 ez ey key
          refine ⟨w, h.cg (?_ : rY _ _) rfl rfl rfl rfl rfl rfl rfl rfl (a2.trans h.2.2.2.2.2.1.1.symm) rfl rfl rfl rfl rfl rfl rfl rfl rfl rfl rfl rfl rfl rfl rfl rfl rfl⟩
          rw [a1]
          show rY fY y.2.2.2.2.2.2.2.2
          rw [a3]
          exact h.2.2.1
        · have d1' : ¬ F_X6_rowHasNoColumn oM fZ = 0 := by rw [d1]; decide
          exact key (-3) (by decide) (by decide) (by
            rw [ez]; unfold F_X6_chance; dsimp only; rw [if_pos w1, if_pos cb]
            rcases c1 with c | c
            · rw [if_pos c, if_pos cb, if_neg d1']
            · rw [if_neg (show ¬ p2 = 0 by rw [c]; decide), if_pos c, if_pos cb, if_neg d1']) (by rw [ey]; unfold F_X7_chance; dsimp only; rw [if_neg w2, bd_eq, if_pos cb, if_neg h01, if_pos d2])
    · exact key (F_X6_outside p1 0 20) bd_rng.1 bd_rng.2 (by rw [ez]; unfold F_X6_chance; dsimp only; rw [if_pos w1, if_neg cb, if_neg cb, if_neg cb]) (by rw [ey]; unfold F_X7_chance; dsimp only; rw [if_neg w2, bd_eq, if_neg cb, if_neg cb])
  · exact key (-1) (by decide) (by decide) (by rw [ez]; unfold F_X6_chance; dsimp only; rw [if_neg w1]) (by rw [ey]; unfold F_X7_chance; dsimp only; rw [if_pos w2])
