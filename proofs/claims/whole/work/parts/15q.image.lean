/-! image, restore -/
theorem SR.cp {q : Nat → Nat → Int32} {n : Int32} {g : Nat → Int32} {nC : Int32} {L : Nat → Nat → Int32} {o o' : Nat → Int32} {a a' : Nat → Nat → Int32} (h : SR q n g nC L o a) (h4 : (o 14).toInt ≤ 4) (ho : ∀ t, t < 6 → o' (13 + t) = o (13 + t)) (ha : ∀ t j, t < 4 → j < 8 → a' (1 + t) j = a (1 + t) j) (hb : ∀ t j, t < 8 → j < 4 → a' (5 + t) j = a (5 + t) j) : SR q n g nC L o' a' := by
  obtain ⟨⟨r1, r2, r3⟩, ⟨⟨b1, b2, b3, b4⟩, b5⟩, c1, c2⟩ := h
  have e13 : o' 13 = o 13 := ho 0 (by omega)
  have e14 : o' 14 = o 14 := ho 1 (by omega)
  have e15 : o' 15 = o 15 := ho 2 (by omega)
  have e16 : o' 16 = o 16 := ho 3 (by omega)
  have e17 : o' 17 = o 17 := ho 4 (by omega)
  have e18 : o' 18 = o 18 := ho 5 (by omega)
  refine ⟨⟨r1.trans e13.symm, r2, fun j hj => ?_⟩, ⟨⟨b1.trans e15.symm, b2.trans e16.symm, b3.trans e17.symm, b4.trans e18.symm⟩, b5⟩, c1.trans e14.symm, fun k hk => ?_⟩
  · obtain ⟨x1, x2, x3, x4⟩ := r3 j hj
    exact ⟨x1.trans (ha 0 j (by omega) hj).symm, x2.trans (ha 1 j (by omega) hj).symm, x3.trans (ha 2 j (by omega) hj).symm, x4.trans (ha 3 j (by omega) hj).symm⟩
  · rw [e14] at hk
    have hk4 : k < 4 := by omega
    obtain ⟨x1, x2, x3, x4, x5, x6, x7, x8⟩ := c2 k hk
    exact ⟨x1.trans (hb 0 k (by omega) hk4).symm, x2.trans (hb 1 k (by omega) hk4).symm, x3.trans (hb 2 k (by omega) hk4).symm, x4.trans (hb 3 k (by omega) hk4).symm, x5.trans (hb 4 k (by omega) hk4).symm, x6.trans (hb 5 k (by omega) hk4).symm, x7.trans (hb 6 k (by omega) hk4).symm, x8.trans (hb 7 k (by omega) hk4).symm⟩
theorem DR.cp {o o' : Nat → Int32} {a a' : Nat → Nat → Int32} (h : DR o a) (ho : ∀ t, t < 6 → o' (13 + t) = o (13 + t)) (ha : ∀ t j, t < 4 → j < 8 → a' (1 + t) j = a (1 + t) j) (hb : ∀ t j, t < 8 → j < 4 → a' (5 + t) j = a (5 + t) j) : DR o' a' := by
  have e13 : o' 13 = o 13 := ho 0 (by omega)
  have e14 : o' 14 = o 14 := ho 1 (by omega)
  have e16 : o' 16 = o 16 := ho 3 (by omega)
  have e17 : o' 17 = o 17 := ho 4 (by omega)
  have e18 : o' 18 = o 18 := ho 5 (by omega)
  obtain ⟨d1, d2, d3, d4, d5⟩ := h
  refine ⟨by rw [e13]; exact d1, by rw [e14]; exact d2, fun l hl => ?_, ⟨by rw [e16]; exact d4.1, by rw [e17]; exact d4.2.1, by rw [e18]; exact d4.2.2⟩, fun k hk => ?_⟩
  · rw [e13] at hl
    have hl8 : l < 8 := by omega
    have x1 : a' 1 l = a 1 l := ha 0 l (by omega) hl8
    have x3 : a' 3 l = a 3 l := ha 2 l (by omega) hl8
    have x4 : a' 4 l = a 4 l := ha 3 l (by omega) hl8
    have := d3 l hl
    unfold dL at this ⊢
    rw [x1, x3, x4]
    exact this
  · rw [e14] at hk
    have hk4 : k < 4 := by omega
    have x5 : a' 5 k = a 5 k := hb 0 k (by omega) hk4
    have x6 : a' 6 k = a 6 k := hb 1 k (by omega) hk4
    have x8 : a' 8 k = a 8 k := hb 3 k (by omega) hk4
    have x10 : a' 10 k = a 10 k := hb 5 k (by omega) hk4
    have x11 : a' 11 k = a 11 k := hb 6 k (by omega) hk4
    have x12 : a' 12 k = a 12 k := hb 7 k (by omega) hk4
    have := d5 k hk
    unfold dK at this ⊢
    rw [x5, x6, x8, x10, x11, x12]
    exact this
theorem x5_L {q0 qT : Nat → Nat → Int32} {n nT : Int32} : ∀ (m k : Nat), k + m = 8 → ∀ (f : Nat) (qa : Nat → Nat → Int32), m < f → ∃ q', F_X5_become_L2 q0 n qT nT f qa (nI k) = (q', nT) ∧ ∀ i, i < 4 → ∀ j, q' i j = if k ≤ j ∧ j < 8 then qT i j else qa i j := by
  intro m
  induction m with
  | zero =>
    intro k hk f qa hf
    match f, hf with
    | f + 1, _ =>
      refine ⟨qa, ?_, fun i _ j => by rw [if_neg (by omega)]⟩
      rw [F_X5_become_L2, if_pos (show (8 : Int32) ≤ nI k from nI_le (a := 8) (by omega) (by omega))]
  | succ m ih =>
    intro k hk f qa hf
    match f, hf with
    | f + 1, hf =>
      obtain ⟨q', h1, h2⟩ := ih (k + 1) (by omega) f (va_up (va_up (va_up (va_up qa 0 (upd (qa 0) k (qT 0 k))) 1 (upd (qa 1) k (qT 1 k))) 2 (upd (qa 2) k (qT 2 k))) 3 (upd (qa 3) k (qT 3 k))) (by omega)
      refine ⟨q', ?_, fun i hi j => ?_⟩
      · rw [F_X5_become_L2, if_neg (show ¬ (8 : Int32) ≤ nI k from nI_ge (b := 8) (by omega) (by omega))]
        unfold F_X5_columnOf F_X5_kindOf F_X5_figureOf F_X5_secondsOf
        dsimp only
        rw [q_at (by omega) (by omega), q_at (by omega) (by omega), q_at (by omega) (by omega), q_at (by omega) (by omega), q_put (by omega) (by omega), q_put (by omega) (by omega), q_put (by omega) (by omega), q_put (by omega) (by omega), nI_1]
        exact h1
      · rw [h2 i hi j]
        have hs : (va_up (va_up (va_up (va_up qa 0 (upd (qa 0) k (qT 0 k))) 1 (upd (qa 1) k (qT 1 k))) 2 (upd (qa 2) k (qT 2 k))) 3 (upd (qa 3) k (qT 3 k))) i j = if j = k then qT i k else qa i j := by
          have hg : ∀ f : Nat → Int32, ∀ x : Int32, upd f k x j = if j = k then x else f j := fun f x => by
            by_cases e : j = k
            · rw [if_pos e, e, pk_us]
            · rw [if_neg e, pk_un e]
          match i, hi with
          | 0, _ => exact hg _ _
          | 1, _ => exact hg _ _
          | 2, _ => exact hg _ _
          | 3, _ => exact hg _ _
        rw [hs]
        by_cases e : j = k
        · rw [if_neg (by omega), if_pos e, if_pos (by omega), e]
        · rw [if_neg e]
          by_cases e2 : k + 1 ≤ j ∧ j < 8
          · rw [if_pos e2, if_pos (by omega)]
          · rw [if_neg e2, if_neg (by omega)]
theorem x3_L {nC : Int32} {wW : Nat → Nat} {q : Nat → Nat → Int32} {n : Int32} {g : Nat → Int32} {nE : Int32} {wV : Nat → Nat} {qU : Nat → Nat → Int32} {nU : Int32} {gH : Nat → Int32} {LP LQ : Nat → Nat → Int32} {o1 : (Nat → Nat → Int32) × Int32} {o2 : Nat → Int32} {N : Nat} (hE : nE.toInt = (N : Int)) (h4 : N ≤ 4) : ∀ (m k : Nat), k + m = N → ∀ (f : Nat) (La : Nat → Nat → Int32), m < f → ∃ L', F_X3_become_L32 nC wW q n g nE wV qU nU gH LP LQ o1 o2 f La (nI k) = (nE, o1.1, o1.2, o2, L') ∧ ∀ i, L' i = if k ≤ i ∧ i < N then F_X2_become (La i) (LQ i) else La i := by
  intro m
  induction m with
  | zero =>
    intro k hk f La hf
    match f, hf with
    | f + 1, _ =>
      refine ⟨La, ?_, fun i => by rw [if_neg (by omega)]⟩
      rw [F_X3_become_L32, if_pos (show nE ≤ nI k by rw [Int32.le_iff_toInt_le, nI_toInt (by omega)]; omega)]
  | succ m ih =>
    intro k hk f La hf
    match f, hf with
    | f + 1, hf =>
      have hw := wk_t (k := k) hE h4 (by omega)
      obtain ⟨L', h1, h2⟩ := ih (k + 1) (by omega) f (va_up La k (F_X2_become (La k) (LQ k))) (by omega)
      refine ⟨L', ?_, fun i => ?_⟩
      · rw [F_X3_become_L32, if_neg (show ¬ nE ≤ nI k by rw [Int32.le_iff_toInt_le, nI_toInt (by omega)]; omega), if_pos hw, if_pos hw]
        dsimp only
        rw [nI_clamp (by omega), nI_1]
        exact h1
      · rw [h2 i]
        by_cases e : i = k
        · rw [if_neg (by omega), if_pos (by omega), e, va_up_self]
        · rw [va_up_ne _ _ e]
          by_cases e2 : k + 1 ≤ i ∧ i < N
          · rw [if_pos e2, if_pos (by omega)]
          · rw [if_neg e2, if_neg (by omega)]
/-- a scene becomes another -/
theorem x3_ok {nC : Int32} {wW : Nat → Nat} {q : Nat → Nat → Int32} {n : Int32} {g : Nat → Int32} {nE : Int32} {wV : Nat → Nat} {qU : Nat → Nat → Int32} {nU : Int32} {gH : Nat → Int32} {LP LQ : Nat → Nat → Int32} {o : Nat → Int32} {a : Nat → Nat → Int32} (h : SR qU nU gH nE LQ o a) (h4 : 0 ≤ (o 14).toInt ∧ (o 14).toInt ≤ 4) (hz : ∀ j : Nat, j < 4 → LP j 7 = 0 ∨ LP j 7 = 1) (hzq : ∀ j : Nat, j < 4 → LQ j 7 = 0 ∨ LQ j 7 = 1) : ∃ q' g' L', F_X3_become nC wW q n g nE wV qU nU gH LP LQ = (nE, q', nU, g', L') ∧ SR q' nU g' nE L' o a ∧ ∀ j : Nat, j < 4 → L' j 7 = 0 ∨ L' j 7 = 1 := by
  have hE : nE.toInt = ((o 14).toInt.toNat : Int) := by rw [h.2.2.1]; omega
  obtain ⟨q', h1, h2⟩ := x5_L (q0 := q) (qT := qU) (n := n) (nT := nU) 8 0 rfl ((((8 : Int32).toInt - (0 : Int32).toInt).toNat) + 1) q (by decide)
  obtain ⟨L', h3, h5⟩ := x3_L (nC := nC) (wW := wW) (q := q) (n := n) (g := g) (wV := wV) (qU := qU) (nU := nU) (gH := gH) (LP := LP) (LQ := LQ) (o1 := (q', nU)) (o2 := F_X0_become g gH) hE (by omega) (o 14).toInt.toNat 0 (by omega) (((nE.toInt - (0 : Int32).toInt).toNat) + 1) LP (by rw [hE, show (0 : Int32).toInt = 0 from rfl]; omega)
  refine ⟨q', F_X0_become g gH, L', ?_, ⟨⟨h.1.1, h.1.2.1, fun j hj => ?_⟩, ⟨⟨h.2.1.1.1, h.2.1.1.2.1, h.2.1.1.2.2.1, h.2.1.1.2.2.2⟩, h.2.1.2⟩, h.2.2.1, fun k hk => ?_⟩, fun j hj => ?_⟩
  · unfold F_X3_become F_X5_become
    dsimp only
    rw [show (0 : Int32) = nI 0 from rfl] at h3
    rw [show F_X5_become_L2 q n qU nU ((((8 : Int32).toInt - (0 : Int32).toInt).toNat) + 1) q 0 = (q', nU) from h1]
    exact h3
  · obtain ⟨x1, x2, x3, x4⟩ := h.1.2.2 j hj
    rw [h2 0 (by omega) j, h2 1 (by omega) j, h2 2 (by omega) j, h2 3 (by omega) j, if_pos ⟨Nat.zero_le j, hj⟩, if_pos ⟨Nat.zero_le j, hj⟩, if_pos ⟨Nat.zero_le j, hj⟩, if_pos ⟨Nat.zero_le j, hj⟩]
    exact ⟨x1, x2, x3, x4⟩
  · rw [h5 k, if_pos ⟨Nat.zero_le k, by omega⟩]
    exact h.2.2.2 k hk
  · rw [h5 j]
    split
    · exact hzq j hj
    · exact hz j hj
theorem kO_v {K : Nat → Int32} {t : Nat} : kO K (13 + t) = K (64 + t) := by
  unfold kO
  rw [show 51 + (13 + t) = 64 + t by omega]
theorem kA_8 {K : Nat → Int32} {t j : Nat} (ht : t < 4) : kA K (1 + t) j = K (8 * t + j) := by
  unfold kA
  rw [if_pos (by omega), show 1 + t - 1 = t by omega]
theorem kA_4 {K : Nat → Int32} {t j : Nat} : kA K (5 + t) j = K (32 + 4 * t + j) := by
  unfold kA
  rw [if_neg (by omega), show 5 + t - 5 = t by omega]

theorem t_image {oM : Nat → Int32} {nC : Int32} {qS : Nat → Nat → Int32} {nS : Int32} {gB : Nat → Int32} {LP : Nat → Nat → Int32} {fN : Nat → Int32} {nN : Int32} {fZ : Nat → Int32} {fY : Nat → Int32} {nE : Int32} {qU : Nat → Nat → Int32} {nU : Int32} {gH : Nat → Int32} {LQ : Nat → Nat → Int32} {oO : Nat → Int32} {aO : Nat → Nat → Int32} {wW : Nat → Nat} {wV : Nat → Nat} (h : INV oM nC qS nS gB LP fN nN fZ fY nE qU nU gH LQ oO aO) {z : Int32 × (Nat → Int32) × Int32 × (Nat → Nat → Int32) × Int32 × (Nat → Int32) × (Nat → Nat → Int32)} (ez : z = F_X6_image oM nC wW qS nS gB nE wV qU nU gH LP LQ) {y : Int32 × Int32 × Int32 × Int32 × Int32 × Int32 × Int32 × Int32 × Int32 × Int32 × (Nat → Int32) × (Nat → Int32) × (Nat → Int32) × (Nat → Int32) × (Nat → Int32) × (Nat → Int32) × (Nat → Int32) × (Nat → Int32) × (Nat → Int32) × (Nat → Int32) × (Nat → Int32) × (Nat → Int32) × (Nat → Int32)} (ey : y = F_X7_image oO aO) : z.1 = y.1 ∧ INV z.2.1 nC qS nS gB LP fN nN fZ fY z.2.2.1 z.2.2.2.1 z.2.2.2.2.1 z.2.2.2.2.2.1 z.2.2.2.2.2.2 (upd (upd (upd (upd (upd (upd (upd (upd (upd oO 13 y.2.1) 14 y.2.2.1) 15 y.2.2.2.1) 16 y.2.2.2.2.1) 17 y.2.2.2.2.2.1) 18 y.2.2.2.2.2.2.1) 27 y.2.2.2.2.2.2.2.1) 28 y.2.2.2.2.2.2.2.2.1) 29 y.2.2.2.2.2.2.2.2.2.1) (va_up (va_up (va_up (va_up (va_up (va_up (va_up (va_up (va_up (va_up (va_up (va_up (va_up aO 1 y.2.2.2.2.2.2.2.2.2.2.1) 2 y.2.2.2.2.2.2.2.2.2.2.2.1) 3 y.2.2.2.2.2.2.2.2.2.2.2.2.1) 4 y.2.2.2.2.2.2.2.2.2.2.2.2.2.1) 5 y.2.2.2.2.2.2.2.2.2.2.2.2.2.2.1) 6 y.2.2.2.2.2.2.2.2.2.2.2.2.2.2.2.1) 7 y.2.2.2.2.2.2.2.2.2.2.2.2.2.2.2.2.1) 8 y.2.2.2.2.2.2.2.2.2.2.2.2.2.2.2.2.2.1) 9 y.2.2.2.2.2.2.2.2.2.2.2.2.2.2.2.2.2.2.1) 10 y.2.2.2.2.2.2.2.2.2.2.2.2.2.2.2.2.2.2.2.1) 11 y.2.2.2.2.2.2.2.2.2.2.2.2.2.2.2.2.2.2.2.2.1) 12 y.2.2.2.2.2.2.2.2.2.2.2.2.2.2.2.2.2.2.2.2.2.1) 26 y.2.2.2.2.2.2.2.2.2.2.2.2.2.2.2.2.2.2.2.2.2.2) := by
  obtain ⟨hS, hD, hY, hN, hR, h36, hK, hz, hzq⟩ := id h
  obtain ⟨q', g', L', x1, x2, x3⟩ := x3_ok (nC := nE) (wW := wV) (q := qU) (n := nU) (g := gH) (wV := wW) (LP := LQ) hS hD.2.1 hzq hz
  obtain ⟨x, K, p1, p2⟩ := pa_s (o := upd oO 27 1) (a := aO) (s := 0) (by omega)
  have hk : ∀ j, j < 70 → K j = img (upd oO 27 1) aO j := fun j hj => by
    have := p2 j
    rw [if_pos (by omega)] at this
    exact this
  have e1 : z = (nS, upd oM 9 1, nC, q', nS, g', L') := by
    rw [ez]; unfold F_X6_image; dsimp only; rw [x1]
  have e2 : y = (oO 13, oO 13, oO 14, oO 15, oO 16, oO 17, oO 18, 1, 1, x, aO 1, aO 2, aO 3, aO 4, aO 5, aO 6, aO 7, aO 8, aO 9, aO 10, aO 11, aO 12, K) := by
    have p1' : F_X7_passesAll (upd oO 27 1) aO 0 1 = ((upd oO 27 1) 13, (upd oO 27 1) 14, (upd oO 27 1) 15, (upd oO 27 1) 16, (upd oO 27 1) 17, (upd oO 27 1) 18, 1, x, aO 1, aO 2, aO 3, aO 4, aO 5, aO 6, aO 7, aO 8, aO 9, aO 10, aO 11, aO 12, K) := p1
    rw [ey]; unfold F_X7_image; dsimp only; rw [p1']; rfl
  clear ez ey x1 p1
  subst e1 e2
  have ho : ∀ t, t < 6 → kO K (13 + t) = oO (13 + t) := fun t ht => by
    rw [kO_v, hk _ (by omega), img_o t ht, pk_un (by omega)]
  have ha : ∀ t j, t < 4 → j < 8 → kA K (1 + t) j = aO (1 + t) j := fun t j ht hj => by
    rw [kA_8 ht, hk _ (by omega), img_8 t j ht hj]
  have hb : ∀ t j, t < 8 → j < 4 → kA K (5 + t) j = aO (5 + t) j := fun t j ht hj => by
    rw [kA_4, hk _ (by omega), img_4 t j ht hj]
  exact ⟨hS.1.1, ⟨⟨hS.1.1, hS.1.2.1, fun j hj => hS.1.2.2 j hj⟩, ⟨⟨hS.2.1.1.1, hS.2.1.1.2.1, hS.2.1.1.2.2.1, hS.2.1.1.2.2.2⟩, hS.2.1.2⟩, hS.2.2.1, fun k hk => hS.2.2.2 k hk⟩, ⟨hD.1, hD.2.1, fun l hl => hD.2.2.1 l hl, hD.2.2.2.1, fun k hk => hD.2.2.2.2 k hk⟩, hY, hN, hR, h36, ⟨rfl, Or.inr ⟨rfl, x2.cp hD.2.1.2 ho ha hb, hD.cp ho ha hb⟩⟩, hz, x3⟩

theorem t_restore {oM : Nat → Int32} {nC : Int32} {qS : Nat → Nat → Int32} {nS : Int32} {gB : Nat → Int32} {LP : Nat → Nat → Int32} {fN : Nat → Int32} {nN : Int32} {fZ : Nat → Int32} {fY : Nat → Int32} {nE : Int32} {qU : Nat → Nat → Int32} {nU : Int32} {gH : Nat → Int32} {LQ : Nat → Nat → Int32} {oO : Nat → Int32} {aO : Nat → Nat → Int32} {wW : Nat → Nat} {wV : Nat → Nat} (h : INV oM nC qS nS gB LP fN nN fZ fY nE qU nU gH LQ oO aO) {z : Int32 × Int32 × (Nat → Nat → Int32) × Int32 × (Nat → Int32) × (Nat → Int32) × (Nat → Nat → Int32)} (ez : z = F_X6_restore oM nC wW qS nS gB nE wV qU nU gH fY LP LQ) {y : Int32 × Int32 × Int32 × Int32 × Int32 × Int32 × Int32 × Int32 × Int32 × (Nat → Int32) × (Nat → Int32) × (Nat → Int32) × (Nat → Int32) × (Nat → Int32) × (Nat → Int32) × (Nat → Int32) × (Nat → Int32) × (Nat → Int32) × (Nat → Int32) × (Nat → Int32) × (Nat → Int32) × (Nat → Int32) × (Nat → Int32)} (ey : y = F_X7_restore oO aO) : z.1 = y.1 ∧ INV oM z.2.1 z.2.2.1 z.2.2.2.1 z.2.2.2.2.1 z.2.2.2.2.2.2 fN nN fZ z.2.2.2.2.2.1 nE qU nU gH LQ (upd (upd (upd (upd (upd (upd (upd (upd oO 13 y.2.1) 14 y.2.2.1) 15 y.2.2.2.1) 16 y.2.2.2.2.1) 17 y.2.2.2.2.2.1) 18 y.2.2.2.2.2.2.1) 28 y.2.2.2.2.2.2.2.1) 29 y.2.2.2.2.2.2.2.2.1) (va_up (va_up (va_up (va_up (va_up (va_up (va_up (va_up (va_up (va_up (va_up (va_up (va_up (va_up aO 0 y.2.2.2.2.2.2.2.2.2.1) 1 y.2.2.2.2.2.2.2.2.2.2.1) 2 y.2.2.2.2.2.2.2.2.2.2.2.1) 3 y.2.2.2.2.2.2.2.2.2.2.2.2.1) 4 y.2.2.2.2.2.2.2.2.2.2.2.2.2.1) 5 y.2.2.2.2.2.2.2.2.2.2.2.2.2.2.1) 6 y.2.2.2.2.2.2.2.2.2.2.2.2.2.2.2.1) 7 y.2.2.2.2.2.2.2.2.2.2.2.2.2.2.2.2.1) 8 y.2.2.2.2.2.2.2.2.2.2.2.2.2.2.2.2.2.1) 9 y.2.2.2.2.2.2.2.2.2.2.2.2.2.2.2.2.2.2.1) 10 y.2.2.2.2.2.2.2.2.2.2.2.2.2.2.2.2.2.2.2.1) 11 y.2.2.2.2.2.2.2.2.2.2.2.2.2.2.2.2.2.2.2.2.1) 12 y.2.2.2.2.2.2.2.2.2.2.2.2.2.2.2.2.2.2.2.2.2.1) 26 y.2.2.2.2.2.2.2.2.2.2.2.2.2.2.2.2.2.2.2.2.2.2) := by
  obtain ⟨hS, hD, hY, hN, hR, h36, hK, hz, hzq⟩ := id h
  rcases hK.2 with c | ⟨c, kS, kD⟩
  · have u := ref_no (M := oM) (o := oO) (a := aO) (w := -3) hY (by decide) (by decide)
    have e1 : z = ((F_X6_refuse oM fY (-3)).1, nC, qS, nS, gB, (F_X6_refuse oM fY (-3)).2, LP) := by
      rw [ez]; unfold F_X6_restore; dsimp only; rw [hK.1, if_pos c]
    have e2 : y = ((F_X7_no oO aO (-3)).1, oO 13, oO 14, oO 15, oO 16, oO 17, oO 18, oO 28, oO 29, (F_X7_no oO aO (-3)).2, aO 1, aO 2, aO 3, aO 4, aO 5, aO 6, aO 7, aO 8, aO 9, aO 10, aO 11, aO 12, aO 26) := by
      rw [ey]; unfold F_X7_restore; dsimp only; rw [if_pos c]
    clear ez ey
    subst e1 e2
    exact ⟨u.1, h.cg u.2 rfl rfl rfl rfl rfl rfl rfl rfl rfl rfl rfl rfl rfl rfl rfl rfl rfl rfl rfl rfl rfl rfl rfl rfl rfl rfl⟩
  · have c0 : ¬ oO 27 = 0 := by rw [c]; decide
    obtain ⟨q', g', L', x1, x2, x3⟩ := x3_ok (nC := nC) (wW := wW) (q := qS) (n := nS) (g := gB) (wV := wV) (LP := LP) kS kD.2.1 hz hzq
    obtain ⟨x, f1, f2, f3, f4, f5, f6, f7, f8, f9, f10, f11, f12, p1, g1, g2, g3, g4, g5, g6, g7, g8, g9, g10, g11, g12⟩ := pa_r (o := oO) (a := aO) (s := 0) (by omega)
    have e1 : z = (nU, nE, q', nU, g', fY, L') := by
      rw [ez]; unfold F_X6_restore; dsimp only; rw [hK.1, if_neg c0, x1]
    have e2 : y = (aO 26 64, aO 26 64, aO 26 65, aO 26 66, aO 26 67, aO 26 68, aO 26 69, 0, x, aO 0, f1, f2, f3, f4, f5, f6, f7, f8, f9, f10, f11, f12, aO 26) := by
      have p1' : F_X7_passesAll oO aO 0 0 = (aO 26 64, aO 26 65, aO 26 66, aO 26 67, aO 26 68, aO 26 69, 0, x, f1, f2, f3, f4, f5, f6, f7, f8, f9, f10, f11, f12, aO 26) := p1
      rw [ey]; unfold F_X7_restore; dsimp only; rw [if_neg c0, p1']
    clear ez ey x1 p1
    subst e1 e2
    have hz0 : ∀ j : Nat, 80 * 0 + j = j := fun j => by omega
    obtain ⟨o', eo⟩ : ∃ o', o' = (upd (upd (upd (upd (upd (upd (upd (upd oO 13 (aO 26 64)) 14 (aO 26 65)) 15 (aO 26 66)) 16 (aO 26 67)) 17 (aO 26 68)) 18 (aO 26 69)) 28 0) 29 x) := ⟨_, rfl⟩
    obtain ⟨a', ea⟩ : ∃ a', a' = (va_up (va_up (va_up (va_up (va_up (va_up (va_up (va_up (va_up (va_up (va_up (va_up (va_up (va_up aO 0 (aO 0)) 1 f1) 2 f2) 3 f3) 4 f4) 5 f5) 6 f6) 7 f7) 8 f8) 9 f9) 10 f10) 11 f11) 12 f12) 26 (aO 26)) := ⟨_, rfl⟩
    have ho : ∀ t, t < 6 → o' (13 + t) = kO (aO 26) (13 + t) := fun t ht => by
      rw [kO_v, eo]
      match t, ht with
      | 0, _ => rfl
      | 1, _ => rfl
      | 2, _ => rfl
      | 3, _ => rfl
      | 4, _ => rfl
      | 5, _ => rfl
    have ha : ∀ t j, t < 4 → j < 8 → a' (1 + t) j = kA (aO 26) (1 + t) j := fun t j ht hj => by
      rw [kA_8 ht, ea]
      match t, ht with
      | 0, _ => exact (g1 j hj).trans (congrArg (aO 26) (by omega))
      | 1, _ => exact (g2 j hj).trans (congrArg (aO 26) (by omega))
      | 2, _ => exact (g3 j hj).trans (congrArg (aO 26) (by omega))
      | 3, _ => exact (g4 j hj).trans (congrArg (aO 26) (by omega))
    have hb : ∀ t j, t < 8 → j < 4 → a' (5 + t) j = kA (aO 26) (5 + t) j := fun t j ht hj => by
      rw [kA_4, ea]
      match t, ht with
      | 0, _ => exact (g5 j hj).trans (congrArg (aO 26) (by omega))
      | 1, _ => exact (g6 j hj).trans (congrArg (aO 26) (by omega))
      | 2, _ => exact (g7 j hj).trans (congrArg (aO 26) (by omega))
      | 3, _ => exact (g8 j hj).trans (congrArg (aO 26) (by omega))
      | 4, _ => exact (g9 j hj).trans (congrArg (aO 26) (by omega))
      | 5, _ => exact (g10 j hj).trans (congrArg (aO 26) (by omega))
      | 6, _ => exact (g11 j hj).trans (congrArg (aO 26) (by omega))
      | 7, _ => exact (g12 j hj).trans (congrArg (aO 26) (by omega))
    have hS' := x2.cp kD.2.1.2 ho ha hb
    have hD' := kD.cp ho ha hb
    rw [eo, ea] at hS' hD'
    exact ⟨kS.1.1, hS', hD', hY, hN, hR, h36, ⟨hK.1, Or.inr ⟨c, kS, kD⟩⟩, x3, hzq⟩
