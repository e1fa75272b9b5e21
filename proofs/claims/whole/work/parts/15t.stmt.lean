/-! train: a statement -/
/-- the numbers of a statement at P, read to b -/
def sd (fN : Nat → Int32) (nN : Int32) (P b : Nat) (W : Nat → Int32) : Prop :=
  (F_X1_letterAt fN nN (nI P) = 104 ∧ W b = F_X1_digitAt fN nN (nI (P + 1)) ∧ W (b + 1) = F_X1_digitAt fN nN (nI (P + 2)) ∧ W (b + 2) = F_X1_numberAt fN nN (nI (P + 3))) ∨ (F_X1_letterAt fN nN (nI P) = 108 ∧ W b = F_X1_digitAt fN nN (nI (P + 1)) ∧ W (b + 1) = F_X1_digitAt fN nN (nI (P + 2)) ∧ W (b + 2) = F_X1_digitAt fN nN (nI (P + 3)) ∧ W (b + 3) = F_X1_digitAt fN nN (nI (P + 4))) ∨ (F_X1_letterAt fN nN (nI P) = 116 ∧ W b = F_X1_tiltAt fN nN (nI (P + 1))) ∨ (F_X1_letterAt fN nN (nI P) = 107 ∧ W b = F_X1_digitAt fN nN (nI (P + 1)) ∧ W (b + 1) = F_X1_digitAt fN nN (nI (P + 2)) ∧ W (b + 2) = F_X1_numberAt fN nN (nI (P + 3)))
theorem sd_c {fN : Nat → Int32} {nN : Int32} {P b : Nat} {W W' : Nat → Int32} (h : sd fN nN P b W) (e : ∀ j, j < b + 4 → W' j = W j) : sd fN nN P b W' := by
  unfold sd at h ⊢
  rw [e b (by omega), e (b + 1) (by omega), e (b + 2) (by omega), e (b + 3) (by omega)]
  exact h
section ST
variable {fN : Nat → Int32} {nN : Int32} {o : Nat → Int32} {a : Nat → Nat → Int32}
theorem lt_in {P : Nat} (hP : P < 1000) (h : ¬ F_X1_letterAt fN nN (nI P) = -1) : (P : Int) < nN.toInt := by
  unfold F_X1_letterAt at h
  rw [if_neg (nI_nl0 hP)] at h
  by_cases c : nN ≤ nI P
  · rw [if_pos c] at h; exact absurd rfl h
  · have := i_nle c
    rw [nI_toInt (by omega)] at this
    exact this
theorem bd_g {Q lo : Nat} (hQ : Q < 900) (hlo : lo ≤ 4) : F_X1_behindDigits fN nN (nI Q) (nI lo) 4 = if dc (isD fN nN Q) 4 0 < lo then -1 - nI (Q + dc (isD fN nN Q) 4 0) else if F_X1_letterAt fN nN (nI (Q + dc (isD fN nN Q) 4 0)) = 59 then nI (Q + dc (isD fN nN Q) 4 0 + 1) else -1 - nI (Q + dc (isD fN nN Q) 4 0) :=
  bh_L (P := Q) (lo := lo) (hi := 4) (by omega) hlo 4 0 rfl _ (by decide)
/-- what both sides make of the numbers: d letters of them, lo wanted -/
def rb (fN : Nat → Int32) (nN : Int32) (a : Nat → Nat → Int32) (P b : Nat) (r : Int32 × Int32 × (Nat → Int32)) : Prop :=
  ∃ d lo : Nat, d ≤ 4 ∧ 1 ≤ lo ∧ F_X1_behindStatement fN nN (nI P) = (if d < lo then -1 - nI (P + 1 + d) else if F_X1_letterAt fN nN (nI (P + 1 + d)) = 59 then nI (P + 1 + d + 1) else -1 - nI (P + 1 + d)) ∧ r.1 = (if d < lo then 0 else 1) ∧ r.2.1 = nI (P + 1 + d) ∧ (lo ≤ d → (∀ j, j < b → r.2.2 j = a 22 j) ∧ sd fN nN P b r.2.2)
theorem dc_4 {g : Nat → Bool} : dc g 4 0 ≤ 4 := by have := (dc_b (g := g) 4 0).2; omega
theorem rb_104 {P b : Nat} (h : tO fN nN o a) (hP : P < 800) (hb : b < 900) (hl : F_X1_letterAt fN nN (nI P) = 104) (h24 : o 24 = nI (P + 1)) : rb fN nN a P b (F_X7_readsAll o a 104 (nI b)) := by
  obtain ⟨e1, e2, e3⟩ := ra_104 h (Q := P + 1) (by omega) hb h24
  refine ⟨dc (isD fN nN (P + 1)) 4 0, 4, dc_4, by omega, ?_, e1, e2, fun q => ⟨(e3 q).1, Or.inl ⟨hl, (e3 q).2⟩⟩⟩
  unfold F_X1_behindStatement
  dsimp only
  rw [hl, if_pos rfl, nI_1]
  exact bd_g (lo := 4) (by omega) (by omega)
theorem rb_108 {P b : Nat} (h : tO fN nN o a) (hP : P < 800) (hb : b < 900) (hl : F_X1_letterAt fN nN (nI P) = 108) (h24 : o 24 = nI (P + 1)) : rb fN nN a P b (F_X7_readsAll o a 108 (nI b)) := by
  obtain ⟨e1, e2, e3⟩ := ra_108 h (Q := P + 1) (by omega) hb h24
  refine ⟨dc (isD fN nN (P + 1)) 4 0, 4, dc_4, by omega, ?_, e1, e2, fun q => ⟨(e3 q).1, Or.inr (Or.inl ⟨hl, (e3 q).2⟩)⟩⟩
  unfold F_X1_behindStatement
  dsimp only
  rw [hl, if_neg (by decide), if_neg (by decide), if_pos rfl, nI_1]
  exact bd_g (lo := 4) (by omega) (by omega)
theorem rb_107 {P b : Nat} (h : tO fN nN o a) (hP : P < 800) (hb : b < 900) (hl : F_X1_letterAt fN nN (nI P) = 107) (h24 : o 24 = nI (P + 1)) : rb fN nN a P b (F_X7_readsAll o a 107 (nI b)) := by
  obtain ⟨e1, e2, e3⟩ := ra_107 h (Q := P + 1) (by omega) hb h24
  refine ⟨dc (isD fN nN (P + 1)) 4 0, 3, dc_4, by omega, ?_, e1, e2, fun q => ⟨(e3 q).1, Or.inr (Or.inr (Or.inr ⟨hl, (e3 q).2⟩))⟩⟩
  unfold F_X1_behindStatement
  dsimp only
  rw [hl, if_neg (by decide), if_pos rfl, nI_1]
  exact bd_g (lo := 3) (by omega) (by omega)
theorem m2_1 (x : Nat) : (-2 : Int32) - nI x = -1 - nI (x + 1) := by
  rw [← nI_1, Int32.sub_eq_add_neg (-1), Int32.neg_add, Int32.sub_eq_add_neg (-nI x), Int32.add_comm (-nI x) (-1), ← Int32.add_assoc, Int32.sub_eq_add_neg]
  rfl
theorem rb_116 {P b : Nat} (h : tO fN nN o a) (hP : P < 800) (hb : b < 900) (hl : F_X1_letterAt fN nN (nI P) = 116) (h24 : o 24 = nI (P + 1)) : rb fN nN a P b (F_X7_readsAll o a 116 (nI b)) := by
  have hn : F_X7_next o a = F_X1_letterAt fN nN (nI (P + 1)) := (l_at h (by omega) h24).symm
  have eb : F_X1_behindStatement fN nN (nI P) = F_X1_behindTilt fN nN (nI (P + 1)) := by
    unfold F_X1_behindStatement
    dsimp only
    rw [hl, if_neg (by decide), if_neg (by decide), if_neg (by decide), if_pos rfl, nI_1]
  have ex : o 24 + 1 = nI (P + 1 + 1) := by rw [h24, nI_1]
  have key : ∀ t : Int32, F_X1_behindTilt fN nN (nI (P + 1)) = (if F_X1_letterAt fN nN (nI (P + 1 + 1)) = 59 then nI (P + 1 + 1 + 1) else -1 - nI (P + 1 + 1)) → F_X1_tiltAt fN nN (nI (P + 1)) = t → F_X7_readsSign o a (nI b) = (1, nI (P + 1 + 1), upd (a 22) (nI b).toNatClampNeg t) → rb fN nN a P b (F_X7_readsAll o a 116 (nI b)) := by
    intro t k1 k2 k3
    rw [nI_clamp (by omega)] at k3
    have e := eX7_readsAll_10 o a 116 (nI b) _ _ rfl k3.symm (by decide) (by decide) rfl
    rw [e]
    refine ⟨1, 1, by omega, by omega, (eb.trans k1).trans (if_neg (by omega)).symm, rfl, rfl, fun _ => ⟨fun j hj => ?_, Or.inr (Or.inr (Or.inl ⟨hl, ?_⟩))⟩⟩
    · show upd (a 22) b t j = a 22 j
      rw [pk_un (by omega)]
    · show upd (a 22) b t b = _
      rw [pk_us, k2]
  have bt0 : ∀ s : Int32, F_X1_letterAt fN nN (nI (P + 1)) = s → (s = 43 ∨ s = 45 ∨ s = 48) → F_X1_behindTilt fN nN (nI (P + 1)) = (if F_X1_letterAt fN nN (nI (P + 1 + 1)) = 59 then nI (P + 1 + 1 + 1) else -1 - nI (P + 1 + 1)) := by
    intro s hs hc
    unfold F_X1_behindTilt
    dsimp only
    rw [hs, nI_1, nI_2, m2_1]
    rcases hc with c | c | c <;> subst c
    · rw [if_pos rfl]
    · rw [if_neg (by decide), if_pos rfl]
    · rw [if_neg (by decide), if_neg (by decide), if_pos rfl]
  by_cases c1 : F_X1_letterAt fN nN (nI (P + 1)) = 43
  · refine key 1 (bt0 43 c1 (Or.inl rfl)) ?_ (eX7_readsSign_3 o a (nI b) 43 (nI (P + 1 + 1)) (by rw [hn, c1]) ex.symm rfl rfl)
    unfold F_X1_tiltAt
    dsimp only
    rw [if_pos c1]
  · by_cases c2 : F_X1_letterAt fN nN (nI (P + 1)) = 45
    · refine key (-1) (bt0 45 c2 (Or.inr (Or.inl rfl))) ?_ (eX7_readsSign_5 o a (nI b) 45 (nI (P + 1 + 1)) (by rw [hn, c2]) ex.symm (by decide) rfl (by decide) rfl)
      unfold F_X1_tiltAt
      dsimp only
      rw [if_neg c1, if_pos c2]
    · by_cases c3 : F_X1_letterAt fN nN (nI (P + 1)) = 48
      · refine key 0 (bt0 48 c3 (Or.inr (Or.inr rfl))) ?_ (eX7_readsSign_7 o a (nI b) 48 (nI (P + 1 + 1)) (by rw [hn, c3]) ex.symm (by decide) (by decide) rfl (by decide) (by decide))
        unfold F_X1_tiltAt
        dsimp only
        rw [if_neg c1, if_neg c2]
      · have k3 := eX7_readsSign_10 o a (nI b) _ hn.symm c1 c2 c3
        have e := eX7_readsAll_10 o a 116 (nI b) _ _ rfl k3.symm (by decide) (by decide) rfl
        rw [e]
        refine ⟨0, 1, by omega, by omega, eb.trans ?_, rfl, h24, fun q => absurd q (by omega)⟩
        unfold F_X1_behindTilt
        dsimp only
        rw [if_neg c1, if_neg c2, if_neg c3, if_pos (show 0 < 1 by omega), Nat.add_zero]
theorem nI_m4 {c : Nat} (h : c < 1000) : 4 * nI c = nI (4 * c) := Int32.toInt_inj.mp (by
  rw [i_mul4 rfl (by rw [nI_toInt (by omega)]; omega) (by rw [nI_toInt (by omega)]; omega), nI_toInt (by omega), nI_toInt (by omega)]
  omega)
/-- a statement, seen from both sides -/
def stc (fN : Nat → Int32) (nN : Int32) (o : Nat → Int32) (a : Nat → Nat → Int32) (P c : Nat) (s : Int32 × Int32 × (Nat → Int32) × (Nat → Int32) × (Nat → Int32)) : Prop :=
  (∃ e : Nat, F_X1_behindStatement fN nN (nI P) = nI e ∧ P + 3 ≤ e ∧ (e : Int) ≤ (o 23).toInt ∧ s.1 = 1 ∧ s.2.1 = nI e ∧ s.2.2.1 = upd (a 20) c (F_X1_letterAt fN nN (nI P)) ∧ s.2.2.2.1 = upd (a 21) c (nI P) ∧ sd fN nN P (4 * c) s.2.2.2.2 ∧ ∀ j, j < 4 * c → s.2.2.2.2 j = a 22 j) ∨ (∃ f : Nat, f ≤ 200 ∧ F_X1_behindStatement fN nN (nI P) = -1 - nI f ∧ s.1 = 0 ∧ s.2.1 = nI f)
theorem st_108 {P c : Nat} (h : tO fN nN o a) (hP : P ≤ 96) (hc : c < 48) (h24 : o 24 = nI P) (h25 : o 25 = nI c) (hl : F_X1_letterAt fN nN (nI P) = 108) : stc fN nN o a P c (F_X7_statement o a) := by
  obtain ⟨r, er⟩ : ∃ r, r = F_X7_readsAll (upd o 24 (nI (P + 1))) (va_up (va_up a 20 (upd (a 20) (o 25).toNatClampNeg 108)) 21 (upd (a 21) (o 25).toNatClampNeg (o 24))) 108 (nI (4 * c)) := ⟨_, rfl⟩
  have hr := rb_108 (o := upd o 24 (nI (P + 1))) (a := (va_up (va_up a 20 (upd (a 20) (o 25).toNatClampNeg 108)) 21 (upd (a 21) (o 25).toNatClampNeg (o 24)))) (P := P) (b := 4 * c) ⟨h.1, h.2.1, h.2.2⟩ (by omega) (by omega) hl rfl
  rw [← er] at hr
  obtain ⟨d, lo, hd, hlo, k1, k2, k3, k4⟩ := hr
  have e0 : (108 : Int32) = F_X7_next o a := by rw [← l_at h (by omega) h24, hl]
  have ex : nI (P + 1) = o 24 + 1 := by rw [h24, nI_1]
  have e4 : nI (4 * c) = 4 * o 25 := by rw [h25, nI_m4 (by omega)]
  by_cases q : d < lo
  · rw [if_pos q] at k1 k2
    have e := eX7_statement_1 o a 108 (nI (P + 1)) (nI (4 * c)) r _ e0 ex e4 rfl er rfl k2
    exact Or.inr ⟨P + 1 + d, by omega, k1, by rw [e], by rw [e]; exact k3⟩
  · rw [if_neg q] at k1 k2
    obtain ⟨w, ew⟩ : ∃ w, w = F_X7_next (upd o 24 r.2.1) (va_up (va_up (va_up a 20 (upd (a 20) (o 25).toNatClampNeg 108)) 21 (upd (a 21) (o 25).toNatClampNeg (o 24))) 22 r.2.2) := ⟨_, rfl⟩
    have hw : F_X1_letterAt fN nN (nI (P + 1 + d)) = w := by
      rw [ew]
      exact l_at (o := upd o 24 r.2.1) (a := va_up (va_up (va_up a 20 (upd (a 20) (o 25).toNatClampNeg 108)) 21 (upd (a 21) (o 25).toNatClampNeg (o 24))) 22 r.2.2) ⟨h.1, h.2.1, h.2.2⟩ (by omega) k3
    have hr0 : ¬ r.1 = 0 := by rw [k2]; decide
    obtain ⟨v1, v2⟩ := k4 (by omega)
    by_cases g : w = 59
    · have hin := lt_in (fN := fN) (nN := nN) (P := P + 1 + d) (by omega) (by rw [hw, g]; decide)
      rw [hw, if_pos g] at k1
      have e := eX7_statement_2 o a 108 (nI (P + 1)) (nI (4 * c)) r _ w _ e0 ex e4 rfl er ew rfl rfl hr0 g
      refine Or.inl ⟨P + 1 + d + 1, k1, by omega, ?_, by rw [e], ?_, ?_, ?_, ?_, ?_⟩
      · rw [h.1] at hin
        omega
      · rw [e]
        show r.2.1 + 1 = _
        rw [k3, nI_1]
      · rw [e, h25, nI_clamp (by omega), hl]
      · rw [e, h25, nI_clamp (by omega), h24]
      · rw [e]
        exact v2
      · rw [e]
        exact v1
    · rw [hw, if_neg g] at k1
      have e := eX7_statement_3 o a 108 (nI (P + 1)) (nI (4 * c)) r _ w e0 ex e4 rfl er ew rfl hr0 g
      exact Or.inr ⟨P + 1 + d, by omega, k1, by rw [e], by rw [e]; exact k3⟩
theorem st_104 {P c : Nat} (h : tO fN nN o a) (hP : P ≤ 96) (hc : c < 48) (h24 : o 24 = nI P) (h25 : o 25 = nI c) (hl : F_X1_letterAt fN nN (nI P) = 104) : stc fN nN o a P c (F_X7_statement o a) := by
  obtain ⟨r, er⟩ : ∃ r, r = F_X7_readsAll (upd o 24 (nI (P + 1))) (va_up (va_up a 20 (upd (a 20) (o 25).toNatClampNeg 104)) 21 (upd (a 21) (o 25).toNatClampNeg (o 24))) 104 (nI (4 * c)) := ⟨_, rfl⟩
  have hr := rb_104 (o := upd o 24 (nI (P + 1))) (a := (va_up (va_up a 20 (upd (a 20) (o 25).toNatClampNeg 104)) 21 (upd (a 21) (o 25).toNatClampNeg (o 24)))) (P := P) (b := 4 * c) ⟨h.1, h.2.1, h.2.2⟩ (by omega) (by omega) hl rfl
  rw [← er] at hr
  obtain ⟨d, lo, hd, hlo, k1, k2, k3, k4⟩ := hr
  have e0 : (104 : Int32) = F_X7_next o a := by rw [← l_at h (by omega) h24, hl]
  have ex : nI (P + 1) = o 24 + 1 := by rw [h24, nI_1]
  have e4 : nI (4 * c) = 4 * o 25 := by rw [h25, nI_m4 (by omega)]
  by_cases q : d < lo
  · rw [if_pos q] at k1 k2
    have e := eX7_statement_4 o a 104 (nI (P + 1)) (nI (4 * c)) r _ e0 ex e4 rfl er (by decide) rfl k2
    exact Or.inr ⟨P + 1 + d, by omega, k1, by rw [e], by rw [e]; exact k3⟩
  · rw [if_neg q] at k1 k2
    obtain ⟨w, ew⟩ : ∃ w, w = F_X7_next (upd o 24 r.2.1) (va_up (va_up (va_up a 20 (upd (a 20) (o 25).toNatClampNeg 104)) 21 (upd (a 21) (o 25).toNatClampNeg (o 24))) 22 r.2.2) := ⟨_, rfl⟩
    have hw : F_X1_letterAt fN nN (nI (P + 1 + d)) = w := by
      rw [ew]
      exact l_at (o := upd o 24 r.2.1) (a := va_up (va_up (va_up a 20 (upd (a 20) (o 25).toNatClampNeg 104)) 21 (upd (a 21) (o 25).toNatClampNeg (o 24))) 22 r.2.2) ⟨h.1, h.2.1, h.2.2⟩ (by omega) k3
    have hr0 : ¬ r.1 = 0 := by rw [k2]; decide
    obtain ⟨v1, v2⟩ := k4 (by omega)
    by_cases g : w = 59
    · have hin := lt_in (fN := fN) (nN := nN) (P := P + 1 + d) (by omega) (by rw [hw, g]; decide)
      rw [hw, if_pos g] at k1
      have e := eX7_statement_5 o a 104 (nI (P + 1)) (nI (4 * c)) r _ w _ e0 ex e4 rfl er ew rfl (by decide) rfl hr0 g
      refine Or.inl ⟨P + 1 + d + 1, k1, by omega, ?_, by rw [e], ?_, ?_, ?_, ?_, ?_⟩
      · rw [h.1] at hin
        omega
      · rw [e]
        show r.2.1 + 1 = _
        rw [k3, nI_1]
      · rw [e, h25, nI_clamp (by omega), hl]
      · rw [e, h25, nI_clamp (by omega), h24]
      · rw [e]
        exact v2
      · rw [e]
        exact v1
    · rw [hw, if_neg g] at k1
      have e := eX7_statement_6 o a 104 (nI (P + 1)) (nI (4 * c)) r _ w e0 ex e4 rfl er ew (by decide) rfl hr0 g
      exact Or.inr ⟨P + 1 + d, by omega, k1, by rw [e], by rw [e]; exact k3⟩
theorem st_116 {P c : Nat} (h : tO fN nN o a) (hP : P ≤ 96) (hc : c < 48) (h24 : o 24 = nI P) (h25 : o 25 = nI c) (hl : F_X1_letterAt fN nN (nI P) = 116) : stc fN nN o a P c (F_X7_statement o a) := by
  obtain ⟨r, er⟩ : ∃ r, r = F_X7_readsAll (upd o 24 (nI (P + 1))) (va_up (va_up a 20 (upd (a 20) (o 25).toNatClampNeg 116)) 21 (upd (a 21) (o 25).toNatClampNeg (o 24))) 116 (nI (4 * c)) := ⟨_, rfl⟩
  have hr := rb_116 (o := upd o 24 (nI (P + 1))) (a := (va_up (va_up a 20 (upd (a 20) (o 25).toNatClampNeg 116)) 21 (upd (a 21) (o 25).toNatClampNeg (o 24)))) (P := P) (b := 4 * c) ⟨h.1, h.2.1, h.2.2⟩ (by omega) (by omega) hl rfl
  rw [← er] at hr
  obtain ⟨d, lo, hd, hlo, k1, k2, k3, k4⟩ := hr
  have e0 : (116 : Int32) = F_X7_next o a := by rw [← l_at h (by omega) h24, hl]
  have ex : nI (P + 1) = o 24 + 1 := by rw [h24, nI_1]
  have e4 : nI (4 * c) = 4 * o 25 := by rw [h25, nI_m4 (by omega)]
  by_cases q : d < lo
  · rw [if_pos q] at k1 k2
    have e := eX7_statement_7 o a 116 (nI (P + 1)) (nI (4 * c)) r _ e0 ex e4 rfl er (by decide) (by decide) rfl k2
    exact Or.inr ⟨P + 1 + d, by omega, k1, by rw [e], by rw [e]; exact k3⟩
  · rw [if_neg q] at k1 k2
    obtain ⟨w, ew⟩ : ∃ w, w = F_X7_next (upd o 24 r.2.1) (va_up (va_up (va_up a 20 (upd (a 20) (o 25).toNatClampNeg 116)) 21 (upd (a 21) (o 25).toNatClampNeg (o 24))) 22 r.2.2) := ⟨_, rfl⟩
    have hw : F_X1_letterAt fN nN (nI (P + 1 + d)) = w := by
      rw [ew]
      exact l_at (o := upd o 24 r.2.1) (a := va_up (va_up (va_up a 20 (upd (a 20) (o 25).toNatClampNeg 116)) 21 (upd (a 21) (o 25).toNatClampNeg (o 24))) 22 r.2.2) ⟨h.1, h.2.1, h.2.2⟩ (by omega) k3
    have hr0 : ¬ r.1 = 0 := by rw [k2]; decide
    obtain ⟨v1, v2⟩ := k4 (by omega)
    by_cases g : w = 59
    · have hin := lt_in (fN := fN) (nN := nN) (P := P + 1 + d) (by omega) (by rw [hw, g]; decide)
      rw [hw, if_pos g] at k1
      have e := eX7_statement_8 o a 116 (nI (P + 1)) (nI (4 * c)) r _ w _ e0 ex e4 rfl er ew rfl (by decide) (by decide) rfl hr0 g
      refine Or.inl ⟨P + 1 + d + 1, k1, by omega, ?_, by rw [e], ?_, ?_, ?_, ?_, ?_⟩
      · rw [h.1] at hin
        omega
      · rw [e]
        show r.2.1 + 1 = _
        rw [k3, nI_1]
      · rw [e, h25, nI_clamp (by omega), hl]
      · rw [e, h25, nI_clamp (by omega), h24]
      · rw [e]
        exact v2
      · rw [e]
        exact v1
    · rw [hw, if_neg g] at k1
      have e := eX7_statement_9 o a 116 (nI (P + 1)) (nI (4 * c)) r _ w e0 ex e4 rfl er ew (by decide) (by decide) rfl hr0 g
      exact Or.inr ⟨P + 1 + d, by omega, k1, by rw [e], by rw [e]; exact k3⟩
theorem st_107 {P c : Nat} (h : tO fN nN o a) (hP : P ≤ 96) (hc : c < 48) (h24 : o 24 = nI P) (h25 : o 25 = nI c) (hl : F_X1_letterAt fN nN (nI P) = 107) : stc fN nN o a P c (F_X7_statement o a) := by
  obtain ⟨r, er⟩ : ∃ r, r = F_X7_readsAll (upd o 24 (nI (P + 1))) (va_up (va_up a 20 (upd (a 20) (o 25).toNatClampNeg 107)) 21 (upd (a 21) (o 25).toNatClampNeg (o 24))) 107 (nI (4 * c)) := ⟨_, rfl⟩
  have hr := rb_107 (o := upd o 24 (nI (P + 1))) (a := (va_up (va_up a 20 (upd (a 20) (o 25).toNatClampNeg 107)) 21 (upd (a 21) (o 25).toNatClampNeg (o 24)))) (P := P) (b := 4 * c) ⟨h.1, h.2.1, h.2.2⟩ (by omega) (by omega) hl rfl
  rw [← er] at hr
  obtain ⟨d, lo, hd, hlo, k1, k2, k3, k4⟩ := hr
  have e0 : (107 : Int32) = F_X7_next o a := by rw [← l_at h (by omega) h24, hl]
  have ex : nI (P + 1) = o 24 + 1 := by rw [h24, nI_1]
  have e4 : nI (4 * c) = 4 * o 25 := by rw [h25, nI_m4 (by omega)]
  by_cases q : d < lo
  · rw [if_pos q] at k1 k2
    have e := eX7_statement_10 o a 107 (nI (P + 1)) (nI (4 * c)) r _ e0 ex e4 rfl er (by decide) (by decide) (by decide) rfl k2
    exact Or.inr ⟨P + 1 + d, by omega, k1, by rw [e], by rw [e]; exact k3⟩
  · rw [if_neg q] at k1 k2
    obtain ⟨w, ew⟩ : ∃ w, w = F_X7_next (upd o 24 r.2.1) (va_up (va_up (va_up a 20 (upd (a 20) (o 25).toNatClampNeg 107)) 21 (upd (a 21) (o 25).toNatClampNeg (o 24))) 22 r.2.2) := ⟨_, rfl⟩
    have hw : F_X1_letterAt fN nN (nI (P + 1 + d)) = w := by
      rw [ew]
      exact l_at (o := upd o 24 r.2.1) (a := va_up (va_up (va_up a 20 (upd (a 20) (o 25).toNatClampNeg 107)) 21 (upd (a 21) (o 25).toNatClampNeg (o 24))) 22 r.2.2) ⟨h.1, h.2.1, h.2.2⟩ (by omega) k3
    have hr0 : ¬ r.1 = 0 := by rw [k2]; decide
    obtain ⟨v1, v2⟩ := k4 (by omega)
    by_cases g : w = 59
    · have hin := lt_in (fN := fN) (nN := nN) (P := P + 1 + d) (by omega) (by rw [hw, g]; decide)
      rw [hw, if_pos g] at k1
      have e := eX7_statement_11 o a 107 (nI (P + 1)) (nI (4 * c)) r _ w _ e0 ex e4 rfl er ew rfl (by decide) (by decide) (by decide) rfl hr0 g
      refine Or.inl ⟨P + 1 + d + 1, k1, by omega, ?_, by rw [e], ?_, ?_, ?_, ?_, ?_⟩
      · rw [h.1] at hin
        omega
      · rw [e]
        show r.2.1 + 1 = _
        rw [k3, nI_1]
      · rw [e, h25, nI_clamp (by omega), hl]
      · rw [e, h25, nI_clamp (by omega), h24]
      · rw [e]
        exact v2
      · rw [e]
        exact v1
    · rw [hw, if_neg g] at k1
      have e := eX7_statement_12 o a 107 (nI (P + 1)) (nI (4 * c)) r _ w e0 ex e4 rfl er ew (by decide) (by decide) (by decide) rfl hr0 g
      exact Or.inr ⟨P + 1 + d, by omega, k1, by rw [e], by rw [e]; exact k3⟩
theorem st_eq {P c : Nat} (h : tO fN nN o a) (hP : P ≤ 96) (hc : c < 48) (h24 : o 24 = nI P) (h25 : o 25 = nI c) : stc fN nN o a P c (F_X7_statement o a) := by
  by_cases c1 : F_X1_letterAt fN nN (nI P) = 108
  · exact st_108 h hP hc h24 h25 c1
  · by_cases c2 : F_X1_letterAt fN nN (nI P) = 104
    · exact st_104 h hP hc h24 h25 c2
    · by_cases c3 : F_X1_letterAt fN nN (nI P) = 116
      · exact st_116 h hP hc h24 h25 c3
      · by_cases c4 : F_X1_letterAt fN nN (nI P) = 107
        · exact st_107 h hP hc h24 h25 c4
        · have e := eX7_statement_13 o a _ (l_at h (by omega) h24) c1 c2 c3 c4
          refine Or.inr ⟨P, by omega, ?_, by rw [e], by rw [e]; exact h24⟩
          unfold F_X1_behindStatement
          dsimp only
          rw [if_neg c2, if_neg c4, if_neg c1, if_neg c3]
end ST
