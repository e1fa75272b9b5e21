/-! most, by, plan -/
theorem mo_hO {S : Nat → Int32} {a : Nat → Nat → Int32} (D : DR S a) (M : dM (vS S)) (h36 : S 36 = 0) (h37 : S 37 = 999) : ∀ t : Nat, t ≤ 8 → ∀ x : Int32, (x ≤ F_X7_turnsFor S a (S 33 + nI t) ∧ x ≤ 1000000) ↔ (x ≤ F_X7_turnsFor S a (S 33 + nI t) - S 36 ∧ x ≤ S 37) := by
  intro t ht x
  have h33 : 0 ≤ (S 33).toInt ∧ (S 33).toInt ≤ 9 := by
    have d0 : 0 ≤ (S 33).toInt ∧ (S 33).toInt + unr (S 34) 8 ≤ 8 + (S 35).toInt := M.1
    have d2 : S 35 = 0 ∨ S 35 = 1 := M.2.2.1
    have d3 : (S 35).toInt ≤ 1 := by rcases d2 with e | e <;> rw [e] <;> decide
    omega
  have e : (S 33 + nI t).toInt = (S 33).toInt + t := by
    rw [i_add (x := S 33 + nI t) rfl (by rw [nI_toInt (by omega)]; omega) (by rw [nI_toInt (by omega)]; omega), nI_toInt (by omega)]
  have hb := bo_tn (a := a) D.2.2.2.1 (n := S 33 + nI t) (by omega)
  rw [h36, h37, Int32.sub_zero, Int32.le_iff_toInt_le, Int32.le_iff_toInt_le, Int32.le_iff_toInt_le, show (1000000 : Int32).toInt = 1000000 from rfl, show (999 : Int32).toInt = 999 from rfl]
  omega
theorem mo_hB {S : Nat → Int32} {a : Nat → Nat → Int32} (h36 : S 36 = 0) : ∀ t : Nat, t ≤ 8 → ∀ x : Int32, (x ≤ F_X7_turnsFor S a (S 33 + nI t) ∧ x ≤ S 37) ↔ (x ≤ F_X7_turnsFor S a (S 33 + nI t) - S 36 ∧ x ≤ S 37) := by
  intro t _ x
  rw [h36, Int32.sub_zero]
/-- the class's search and the reference's -/
theorem mo_gen {q : Nat → Nat → Int32} {n : Int32} {g f S : Nat → Int32} {a : Nat → Nat → Int32} {k : Nat} (R : rS q n S a) (B : rB g S) (hg4 : g 4 = 0) (D : DR S a) (hk : (k : Int) < (S 14).toInt) (h30 : S 30 = nI k) (V : rV f a k (vS S)) (M : dM (vS S)) {out : Int32} (hO : ∀ t : Nat, t ≤ 8 → ∀ x : Int32, (x ≤ F_X7_turnsFor S a (S 33 + nI t) ∧ x ≤ out) ↔ (x ≤ F_X7_turnsFor S a (S 33 + nI t) - S 36 ∧ x ≤ S 37)) (bR : Nat → Nat → Int32) (cR : Nat → Int32) : ∃ b : SB, b = s_most (rP S a) (S 31, S 32, S 33, S 34) ∧ s_bi (rP S a) (S 34) b ∧ 0 ≤ b.1 ∧ (F_X4_greatest bR cR q n g f out).1.toInt = b.1 ∧ cB (F_X4_greatest bR cR q n g f out).2.1 (F_X4_greatest bR cR q n g f out).2.2 b ∧ (F_X7_findMost S a).1 = (F_X4_greatest bR cR q n g f out).1 ∧ RB (F_X7_findMost S a).1 (F_X7_findMost S a).2.2.2.2.2.2.2.1 (F_X7_findMost S a).2.2.2.2.2.2.2.2.1 (F_X7_findMost S a).2.2.2.2.2.2.2.2.2.2.2 b := by
  have h8 := D.1
  have hl := D.2.1
  have hkc : (S 30).toNatClampNeg = k := by rw [h30, nI_clamp (by omega)]
  obtain ⟨f0, f1, f2, f3, f4, f5, f6, f7⟩ := V
  have K : rK f S a := by
    unfold rK
    rw [hkc]
    exact ⟨f0, f1, f2, f3, f4, f5, f6, f7⟩
  have hW : rOK S a := D.ok
  have C : rC S a := ⟨fun l hl => (D.2.2.1 l hl).1, D.2.2.2.1.2.2⟩
  obtain ⟨g1, g2⟩ := grt_ok R B hg4 K hW C (by rw [hkc]; exact (D.2.2.2.2 k hk).1) M.2.2.1 hO bR cR
  obtain ⟨z, ez, rb⟩ := rf_most hW
  subst ez
  have hP := hW.s
  refine ⟨_, rfl, ?_, ?_, g1, g2, ?_, rb⟩
  · exact s_walk_bi hP 9 [] _ _ rfl (by
      have := unr_le (S 34) (pN (rP S a)) (by have := hP.1; omega)
      have h2 := hP.1
      show unr (S 34) (pN (rP S a)) + 0 ≤ 8
      omega) ⟨rfl, rfl, by show 0 ≤ 8; omega⟩
  · have hbi : s_bi (rP S a) (S 34) (s_most (rP S a) (S 31, S 32, S 33, S 34)) := s_walk_bi hP 9 [] _ _ rfl (by
      have := unr_le (S 34) (pN (rP S a)) (by have := hP.1; omega)
      have h2 := hP.1
      show unr (S 34) (pN (rP S a)) + 0 ≤ 8
      omega) ⟨rfl, rfl, by show 0 ≤ 8; omega⟩
    rw [hbi.2.1]
    exact (s_b hP _).1.1
  · exact Int32.toInt_inj.1 (rb.1.trans g1.symm)
theorem wAg.eq {g g' : Nat → Int32} {w : List Int32} (h : wAg g w) (h' : wAg g' w) {j : Nat} (hj : j < w.length) : g j = g' j := by
  have := (h j hj).symm.trans (h' j hj)
  exact Option.some.inj this
theorem mf_eq {o : Nat → Int32} {a : Nat → Nat → Int32} {k : Nat} (hk : k < 4) {G : Int32 × Int32 × Int32 × Int32 × Int32 × Int32 × Int32 × Int32 × Int32 × (Nat → Int32) × (Nat → Int32) × (Nat → Int32)} (e : G = F_X7_findMost (mS o k (a 8 k, a 9 k, a 10 k, a 11 k, a 12 k)) a) : F_X7_mostOf o a (nI k) = (G.1, nI k, G.2.1, G.2.2.1, G.2.2.2.1, G.2.2.2.2.1, G.2.2.2.2.2.1, G.2.2.2.2.2.2.1, G.2.2.2.2.2.2.2.1, G.2.2.2.2.2.2.2.2.1, G.2.2.2.2.2.2.2.2.2.1, G.2.2.2.2.2.2.2.2.2.2.1, G.2.2.2.2.2.2.2.2.2.2.2) := by
  unfold F_X7_mostOf
  dsimp only
  rw [mi_eq hk, e]
  rfl
theorem mo_INV {M : Nat → Int32} {nC : Int32} {q : Nat → Nat → Int32} {n : Int32} {g : Nat → Int32} {L : Nat → Nat → Int32} {fN : Nat → Int32} {nN : Int32} {fZ fY : Nat → Int32} {nE : Int32} {qU : Nat → Nat → Int32} {nU : Int32} {gH : Nat → Int32} {LQ : Nat → Nat → Int32} {o : Nat → Int32} {a : Nat → Nat → Int32} (h : INV M nC q n g L fN nN fZ fY nE qU nU gH LQ o a) {k : Nat} (hk : (k : Int) < (o 14).toInt) (bR : Nat → Nat → Int32) (cR : Nat → Int32) : ∃ b : SB, s_bi (rP (mS o k (a 8 k, a 9 k, a 10 k, a 11 k, a 12 k)) a) (a 11 k) b ∧ 0 ≤ b.1 ∧ (F_X4_greatest bR cR q n g (L k) 1000000).1.toInt = b.1 ∧ cB (F_X4_greatest bR cR q n g (L k) 1000000).2.1 (F_X4_greatest bR cR q n g (L k) 1000000).2.2 b ∧ ∀ G, G = F_X7_findMost (mS o k (a 8 k, a 9 k, a 10 k, a 11 k, a 12 k)) a → G.1 = (F_X4_greatest bR cR q n g (L k) 1000000).1 ∧ RB G.1 G.2.2.2.2.2.2.2.1 G.2.2.2.2.2.2.2.2.1 G.2.2.2.2.2.2.2.2.2.2.2 b := by
  obtain ⟨X, hg4, h36⟩ := h.cx hk (a 8 k, a 9 k, a 10 k, a 11 k, a 12 k)
  obtain ⟨b, -, b2, b3, b4, b5, b6, b7⟩ := mo_gen X.1 X.2.1 hg4 X.2.2.1 hk rfl (h.rv hk) (h.dm hk) (mo_hO X.2.2.1 (h.dm hk) h36 X.2.2.2.2.2) bR cR
  exact ⟨b, b2, b3, b4, b5, fun G e => by subst e; exact ⟨b6, b7⟩⟩

theorem t_most {oM : Nat → Int32} {nC : Int32} {qS : Nat → Nat → Int32} {nS : Int32} {gB : Nat → Int32} {LP : Nat → Nat → Int32} {fN : Nat → Int32} {nN : Int32} {fZ : Nat → Int32} {fY : Nat → Int32} {nE : Int32} {qU : Nat → Nat → Int32} {nU : Int32} {gH : Nat → Int32} {LQ : Nat → Nat → Int32} {oO : Nat → Int32} {aO : Nat → Nat → Int32} {wW : Nat → Nat} {bR : Nat → Nat → Int32} {cR : Nat → Int32} {p0 : Int32} (h : INV oM nC qS nS gB LP fN nN fZ fY nE qU nU gH LQ oO aO) {z : Int32 × (Nat → Nat → Int32) × (Nat → Int32) × (Nat → Int32)} (ez : z = F_X6_most oM nC wW qS nS gB bR cR fY LP p0) {y : Int32 × Int32 × Int32 × Int32 × Int32 × Int32 × Int32 × Int32 × Int32 × Int32 × (Nat → Int32) × (Nat → Int32) × (Nat → Int32) × (Nat → Int32)} (ey : y = F_X7_most oO aO p0) : z.1 = y.1 ∧ INV oM nC qS nS gB LP fN nN fZ z.2.2.2 nE qU nU gH LQ (upd (upd (upd (upd (upd (upd (upd (upd (upd oO 30 y.2.1) 31 y.2.2.1) 32 y.2.2.2.1) 33 y.2.2.2.2.1) 34 y.2.2.2.2.2.1) 35 y.2.2.2.2.2.2.1) 41 y.2.2.2.2.2.2.2.1) 42 y.2.2.2.2.2.2.2.2.1) 43 y.2.2.2.2.2.2.2.2.2.1) (va_up (va_up (va_up (va_up aO 0 y.2.2.2.2.2.2.2.2.2.2.1) 38 y.2.2.2.2.2.2.2.2.2.2.2.1) 39 y.2.2.2.2.2.2.2.2.2.2.2.2.1) 40 y.2.2.2.2.2.2.2.2.2.2.2.2.2) := by
  have key : ∀ w : Int32, -7 < w.toInt → w.toInt ≤ 0 → z = ((F_X6_refuse oM fY w).1, bR, cR, (F_X6_refuse oM fY w).2) → y = ((F_X7_no oO aO w).1, oO 30, oO 31, oO 32, oO 33, oO 34, oO 35, oO 41, oO 42, oO 43, (F_X7_no oO aO w).2, aO 38, aO 39, aO 40) → z.1 = y.1 ∧ INV oM nC qS nS gB LP fN nN fZ z.2.2.2 nE qU nU gH LQ (upd (upd (upd (upd (upd (upd (upd (upd (upd oO 30 y.2.1) 31 y.2.2.1) 32 y.2.2.2.1) 33 y.2.2.2.2.1) 34 y.2.2.2.2.2.1) 35 y.2.2.2.2.2.2.1) 41 y.2.2.2.2.2.2.2.1) 42 y.2.2.2.2.2.2.2.2.1) 43 y.2.2.2.2.2.2.2.2.2.1) (va_up (va_up (va_up (va_up aO 0 y.2.2.2.2.2.2.2.2.2.2.1) 38 y.2.2.2.2.2.2.2.2.2.2.2.1) 39 y.2.2.2.2.2.2.2.2.2.2.2.2.1) 40 y.2.2.2.2.2.2.2.2.2.2.2.2.2) := by
    intro w hw1 hw2 e1 e2
    have u := ref_no (M := oM) (o := oO) (a := aO) (w := w) h.2.2.1 hw1 hw2
    clear ez ey
    subst e1 e2
    exact ⟨u.1, h.cg u.2 rfl rfl rfl rfl rfl rfl rfl rfl rfl rfl rfl rfl rfl rfl rfl rfl rfl rfl rfl rfl rfl rfl rfl rfl rfl rfl⟩
  rcases wk_lk (p := p0) (a := aO) h.1.2.2.1 h.2.1.2.1 with ⟨w1, w2, k, hk, hk4, hk1, hkc⟩ | ⟨w1, w2⟩
  · obtain ⟨b, -, -, -, -, hG⟩ := mo_INV h hk1 bR cR
    obtain ⟨G, eG⟩ : ∃ G, G = F_X7_findMost (mS oO k (aO 8 k, aO 9 k, aO 10 k, aO 11 k, aO 12 k)) aO := ⟨_, rfl⟩
    have hmf := mf_eq hk4 eG
    obtain ⟨g1, -⟩ := hG G eG
    have e1 : z = (G.1, (F_X4_greatest bR cR qS nS gB (LP k) 1000000).2.1, (F_X4_greatest bR cR qS nS gB (LP k) 1000000).2.2, fY) := by
      rw [ez]; unfold F_X6_most F_X6_mostOf; dsimp only; rw [if_pos w1, hkc, g1]
    have e2 : y = (G.1, nI k, G.2.1, G.2.2.1, G.2.2.2.1, G.2.2.2.2.1, G.2.2.2.2.2.1, G.2.2.2.2.2.2.1, G.2.2.2.2.2.2.2.1, G.2.2.2.2.2.2.2.2.1, aO 0, G.2.2.2.2.2.2.2.2.2.1, G.2.2.2.2.2.2.2.2.2.2.1, G.2.2.2.2.2.2.2.2.2.2.2) := by
      rw [ey]; unfold F_X7_most; dsimp only; rw [if_neg w2, hk, hmf]
    clear ez ey key
    subst e1 e2
    exact ⟨rfl, h.cg h.2.2.1 rfl rfl rfl rfl rfl rfl rfl rfl rfl rfl rfl rfl rfl rfl rfl rfl rfl rfl rfl rfl rfl rfl rfl rfl rfl rfl⟩
  · exact key (-1) (by decide) (by decide) (by rw [ez]; unfold F_X6_most; dsimp only; rw [if_neg w1]) (by rw [ey]; unfold F_X7_most; dsimp only; rw [if_pos w2])

theorem t_by {oM : Nat → Int32} {nC : Int32} {qS : Nat → Nat → Int32} {nS : Int32} {gB : Nat → Int32} {LP : Nat → Nat → Int32} {fN : Nat → Int32} {nN : Int32} {fZ : Nat → Int32} {fY : Nat → Int32} {nE : Int32} {qU : Nat → Nat → Int32} {nU : Int32} {gH : Nat → Int32} {LQ : Nat → Nat → Int32} {oO : Nat → Int32} {aO : Nat → Nat → Int32} {wW : Nat → Nat} {bR : Nat → Nat → Int32} {cR : Nat → Int32} {p0 : Int32} {p1 : Int32} (h : INV oM nC qS nS gB LP fN nN fZ fY nE qU nU gH LQ oO aO) {z : Int32 × (Nat → Nat → Int32) × (Nat → Int32) × (Nat → Int32)} (ez : z = F_X6_by oM nC wW qS nS gB bR cR fY LP p0 p1) {y : Int32 × Int32 × Int32 × Int32 × Int32 × Int32 × Int32 × Int32 × Int32 × Int32 × Int32 × (Nat → Int32) × (Nat → Int32) × (Nat → Int32) × (Nat → Int32)} (ey : y = F_X7_by oO aO p0 p1) : z.1 = y.1 ∧ INV oM nC qS nS gB LP fN nN fZ z.2.2.2 nE qU nU gH LQ (upd (upd (upd (upd (upd (upd (upd (upd (upd (upd oO 30 y.2.1) 31 y.2.2.1) 32 y.2.2.2.1) 33 y.2.2.2.2.1) 34 y.2.2.2.2.2.1) 35 y.2.2.2.2.2.2.1) 37 y.2.2.2.2.2.2.2.1) 41 y.2.2.2.2.2.2.2.2.1) 42 y.2.2.2.2.2.2.2.2.2.1) 43 y.2.2.2.2.2.2.2.2.2.2.1) (va_up (va_up (va_up (va_up aO 0 y.2.2.2.2.2.2.2.2.2.2.2.1) 38 y.2.2.2.2.2.2.2.2.2.2.2.2.1) 39 y.2.2.2.2.2.2.2.2.2.2.2.2.2.1) 40 y.2.2.2.2.2.2.2.2.2.2.2.2.2.2) := by
  have key : ∀ w : Int32, -7 < w.toInt → w.toInt ≤ 0 → z = ((F_X6_refuse oM fY w).1, bR, cR, (F_X6_refuse oM fY w).2) → y = ((F_X7_no oO aO w).1, oO 30, oO 31, oO 32, oO 33, oO 34, oO 35, oO 37, oO 41, oO 42, oO 43, (F_X7_no oO aO w).2, aO 38, aO 39, aO 40) → z.1 = y.1 ∧ INV oM nC qS nS gB LP fN nN fZ z.2.2.2 nE qU nU gH LQ (upd (upd (upd (upd (upd (upd (upd (upd (upd (upd oO 30 y.2.1) 31 y.2.2.1) 32 y.2.2.2.1) 33 y.2.2.2.2.1) 34 y.2.2.2.2.2.1) 35 y.2.2.2.2.2.2.1) 37 y.2.2.2.2.2.2.2.1) 41 y.2.2.2.2.2.2.2.2.1) 42 y.2.2.2.2.2.2.2.2.2.1) 43 y.2.2.2.2.2.2.2.2.2.2.1) (va_up (va_up (va_up (va_up aO 0 y.2.2.2.2.2.2.2.2.2.2.2.1) 38 y.2.2.2.2.2.2.2.2.2.2.2.2.1) 39 y.2.2.2.2.2.2.2.2.2.2.2.2.2.1) 40 y.2.2.2.2.2.2.2.2.2.2.2.2.2.2) := by
    intro w hw1 hw2 e1 e2
    have u := ref_no (M := oM) (o := oO) (a := aO) (w := w) h.2.2.1 hw1 hw2
    clear ez ey
    subst e1 e2
    exact ⟨u.1, h.cg u.2 rfl rfl rfl rfl rfl rfl rfl rfl rfl rfl rfl rfl rfl rfl rfl rfl rfl rfl rfl rfl rfl rfl rfl rfl rfl rfl⟩
  rcases wk_lk (p := p0) (a := aO) h.1.2.2.1 h.2.1.2.1 with ⟨w1, w2, k, hk, hk4, hk1, hkc⟩ | ⟨w1, w2⟩
  · by_cases cb : F_X6_outside p1 0 999 = 0
    · obtain ⟨X, hg4, h36⟩ := h.cx hk1 (aO 8 k, aO 9 k, aO 10 k, aO 11 k, aO 12 k)
      obtain ⟨b, -, -, -, -, -, g1, -⟩ := mo_gen (S := mS (upd oO 37 p1) k (aO 8 k, aO 9 k, aO 10 k, aO 11 k, aO 12 k)) (out := p1) ⟨X.1.1, X.1.2.1, X.1.2.2⟩ X.2.1 hg4 X.2.2.1 hk1 rfl (h.rv hk1) (h.dm hk1) (mo_hB (S := mS (upd oO 37 p1) k (aO 8 k, aO 9 k, aO 10 k, aO 11 k, aO 12 k)) h36) bR cR
      obtain ⟨G, eG⟩ : ∃ G, G = F_X7_findMost (mS (upd oO 37 p1) k (aO 8 k, aO 9 k, aO 10 k, aO 11 k, aO 12 k)) aO := ⟨_, rfl⟩
      have hmf := mf_eq hk4 eG
      rw [← eG] at g1
      have e1 : z = (G.1, (F_X4_greatest bR cR qS nS gB (LP k) p1).2.1, (F_X4_greatest bR cR qS nS gB (LP k) p1).2.2, fY) := by
        rw [ez]; unfold F_X6_by; dsimp only; rw [if_pos w1, if_pos cb, hkc, g1]
      have e2 : y = (G.1, nI k, G.2.1, G.2.2.1, G.2.2.2.1, G.2.2.2.2.1, G.2.2.2.2.2.1, 999, G.2.2.2.2.2.2.1, G.2.2.2.2.2.2.2.1, G.2.2.2.2.2.2.2.2.1, aO 0, G.2.2.2.2.2.2.2.2.2.1, G.2.2.2.2.2.2.2.2.2.2.1, G.2.2.2.2.2.2.2.2.2.2.2) := by
        rw [ey]; unfold F_X7_by; dsimp only; rw [if_neg w2, bd_eq, if_pos cb, hk, hmf]
      clear ez ey key
      subst e1 e2
      exact ⟨rfl, h.cg h.2.2.1 rfl rfl rfl rfl rfl rfl rfl rfl rfl h.2.2.2.2.2.1.2.symm rfl rfl rfl rfl rfl rfl rfl rfl rfl rfl rfl rfl rfl rfl rfl rfl⟩
    · exact key _ bd_rng.1 bd_rng.2 (by rw [ez]; unfold F_X6_by; dsimp only; rw [if_pos w1, if_neg cb]) (by rw [ey]; unfold F_X7_by; dsimp only; rw [if_neg w2, bd_eq, if_neg cb])
  · exact key (-1) (by decide) (by decide) (by rw [ez]; unfold F_X6_by; dsimp only; rw [if_neg w1]) (by rw [ey]; unfold F_X7_by; dsimp only; rw [if_pos w2])

theorem t_plan {oM : Nat → Int32} {nC : Int32} {qS : Nat → Nat → Int32} {nS : Int32} {gB : Nat → Int32} {LP : Nat → Nat → Int32} {fN : Nat → Int32} {nN : Int32} {fZ : Nat → Int32} {fY : Nat → Int32} {nE : Int32} {qU : Nat → Nat → Int32} {nU : Int32} {gH : Nat → Int32} {LQ : Nat → Nat → Int32} {oO : Nat → Int32} {aO : Nat → Nat → Int32} {wW : Nat → Nat} {bR : Nat → Nat → Int32} {cR : Nat → Int32} {p0 : Int32} {p1 : Int32} (h : INV oM nC qS nS gB LP fN nN fZ fY nE qU nU gH LQ oO aO) {z : Int32 × (Nat → Nat → Int32) × (Nat → Int32) × (Nat → Int32)} (ez : z = F_X6_plan oM nC wW qS nS gB bR cR fY LP p0 p1) {y : Int32 × Int32 × Int32 × Int32 × Int32 × Int32 × Int32 × Int32 × Int32 × Int32 × (Nat → Int32) × (Nat → Int32) × (Nat → Int32) × (Nat → Int32)} (ey : y = F_X7_plan oO aO p0 p1) : z.1 = y.1 ∧ INV oM nC qS nS gB LP fN nN fZ z.2.2.2 nE qU nU gH LQ (upd (upd (upd (upd (upd (upd (upd (upd (upd oO 30 y.2.1) 31 y.2.2.1) 32 y.2.2.2.1) 33 y.2.2.2.2.1) 34 y.2.2.2.2.2.1) 35 y.2.2.2.2.2.2.1) 41 y.2.2.2.2.2.2.2.1) 42 y.2.2.2.2.2.2.2.2.1) 43 y.2.2.2.2.2.2.2.2.2.1) (va_up (va_up (va_up (va_up aO 0 y.2.2.2.2.2.2.2.2.2.2.1) 38 y.2.2.2.2.2.2.2.2.2.2.2.1) 39 y.2.2.2.2.2.2.2.2.2.2.2.2.1) 40 y.2.2.2.2.2.2.2.2.2.2.2.2.2) := by
  have key : ∀ w : Int32, -7 < w.toInt → w.toInt ≤ 0 → z = ((F_X6_refuse oM fY w).1, bR, cR, (F_X6_refuse oM fY w).2) → y = ((F_X7_no oO aO w).1, oO 30, oO 31, oO 32, oO 33, oO 34, oO 35, oO 41, oO 42, oO 43, (F_X7_no oO aO w).2, aO 38, aO 39, aO 40) → z.1 = y.1 ∧ INV oM nC qS nS gB LP fN nN fZ z.2.2.2 nE qU nU gH LQ (upd (upd (upd (upd (upd (upd (upd (upd (upd oO 30 y.2.1) 31 y.2.2.1) 32 y.2.2.2.1) 33 y.2.2.2.2.1) 34 y.2.2.2.2.2.1) 35 y.2.2.2.2.2.2.1) 41 y.2.2.2.2.2.2.2.1) 42 y.2.2.2.2.2.2.2.2.1) 43 y.2.2.2.2.2.2.2.2.2.1) (va_up (va_up (va_up (va_up aO 0 y.2.2.2.2.2.2.2.2.2.2.1) 38 y.2.2.2.2.2.2.2.2.2.2.2.1) 39 y.2.2.2.2.2.2.2.2.2.2.2.2.1) 40 y.2.2.2.2.2.2.2.2.2.2.2.2.2) := by
    intro w hw1 hw2 e1 e2
    have u := ref_no (M := oM) (o := oO) (a := aO) (w := w) h.2.2.1 hw1 hw2
    clear ez ey
    subst e1 e2
    exact ⟨u.1, h.cg u.2 rfl rfl rfl rfl rfl rfl rfl rfl rfl rfl rfl rfl rfl rfl rfl rfl rfl rfl rfl rfl rfl rfl rfl rfl rfl rfl⟩
  rcases wk_lk (p := p0) (a := aO) h.1.2.2.1 h.2.1.2.1 with ⟨w1, w2, k, hk, hk4, hk1, hkc⟩ | ⟨w1, w2⟩
  · by_cases cp : 0 ≤ p1
    · obtain ⟨b, -, -, -, hcB, hG⟩ := mo_INV h hk1 bR cR
      obtain ⟨G, eG⟩ : ∃ G, G = F_X7_findMost (mS oO k (aO 8 k, aO 9 k, aO 10 k, aO 11 k, aO 12 k)) aO := ⟨_, rfl⟩
      have hmf := mf_eq hk4 eG
      obtain ⟨-, rb⟩ := hG G eG
      obtain ⟨-, c13, cl, cw⟩ := hcB
      obtain ⟨-, r42, -, -, rw40⟩ := rb
      have hp0 : 0 ≤ p1.toInt := by have := i_le cp; rw [show (0 : Int32).toInt = 0 from rfl] at this; exact this
      have hr : F_X4_planned (F_X4_greatest bR cR qS nS gB (LP k) 1000000).2.1 (F_X4_greatest bR cR qS nS gB (LP k) 1000000).2.2 p1 = if G.2.2.2.2.2.2.2.1 ≤ p1 then -9 else G.2.2.2.2.2.2.2.2.2.2.2 p1.toNatClampNeg := by
        unfold F_X4_planned
        dsimp only
        rw [if_neg (show ¬ p1 < 0 by rw [Int32.lt_iff_toInt_lt, show (0 : Int32).toInt = 0 from rfl]; omega), c13, r42]
        by_cases c : nI b.2.2.length ≤ p1
        · rw [if_pos c, if_pos c]
        · rw [if_neg c, if_neg c]
          have hlt := i_nle c
          rw [nI_toInt (by omega)] at hlt
          obtain ⟨j, hj, ej⟩ : ∃ j : Nat, j < b.2.2.length ∧ p1 = nI j := ⟨p1.toInt.toNat, by omega, x_nIt hp0⟩
          rw [ej, q_at (by omega) (by omega), nI_clamp (by omega)]
          exact cw.eq rw40 hj
      have e1 : z = (if G.2.2.2.2.2.2.2.1 ≤ p1 then -9 else G.2.2.2.2.2.2.2.2.2.2.2 p1.toNatClampNeg, (F_X4_greatest bR cR qS nS gB (LP k) 1000000).2.1, (F_X4_greatest bR cR qS nS gB (LP k) 1000000).2.2, fY) := by
        rw [ez]; unfold F_X6_plan F_X6_mostOf; dsimp only; rw [if_pos w1, if_pos cp, hkc, hr]
      have e2 : y = (if G.2.2.2.2.2.2.2.1 ≤ p1 then -9 else G.2.2.2.2.2.2.2.2.2.2.2 p1.toNatClampNeg, nI k, G.2.1, G.2.2.1, G.2.2.2.1, G.2.2.2.2.1, G.2.2.2.2.2.1, G.2.2.2.2.2.2.1, G.2.2.2.2.2.2.2.1, G.2.2.2.2.2.2.2.2.1, aO 0, G.2.2.2.2.2.2.2.2.2.1, G.2.2.2.2.2.2.2.2.2.2.1, G.2.2.2.2.2.2.2.2.2.2.2) := by
        rw [ey]; unfold F_X7_plan; dsimp only; rw [if_neg w2, if_pos cp, hk, hmf]
        by_cases c : G.2.2.2.2.2.2.2.1 ≤ p1
        · rw [if_pos c, if_pos c]
        · rw [if_neg c, if_neg c]
      clear ez ey key
      subst e1 e2
      exact ⟨rfl, h.cg h.2.2.1 rfl rfl rfl rfl rfl rfl rfl rfl rfl rfl rfl rfl rfl rfl rfl rfl rfl rfl rfl rfl rfl rfl rfl rfl rfl rfl⟩
    · exact key (-4) (by decide) (by decide) (by rw [ez]; unfold F_X6_plan; dsimp only; rw [if_pos w1, if_neg cp]) (by rw [ey]; unfold F_X7_plan; dsimp only; rw [if_neg w2, if_neg cp])
  · exact key (-1) (by decide) (by decide) (by rw [ez]; unfold F_X6_plan; dsimp only; rw [if_neg w1]) (by rw [ey]; unfold F_X7_plan; dsimp only; rw [if_pos w2])
