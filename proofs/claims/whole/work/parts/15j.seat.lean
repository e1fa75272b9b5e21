/-! seat, more, both -/
theorem st_L {M : Nat → Int32} {nC : Int32} {wW : Nat → Nat} {q : Nat → Nat → Int32} {n : Int32} {g : Nat → Int32} {b0 : Nat → Nat → Int32} {c0 fK0 fY : Nat → Int32} {LP : Nat → Nat → Int32} {o : Nat → Int32} {a : Nat → Nat → Int32} {k : Nat} (W : WR q n g nC LP o a) (hk4 : k < 4) (hk : (k : Int) < (o 14).toInt) : ∀ (m i : Nat), i + m = 3 → ∀ (f1 f2 : Nat) (b : Nat → Nat → Int32) (c f : Nat → Int32) (x38 x39 x40 x5 : Nat → Int32) (x30 x31 x32 x33 x34 x35 x41 x42 x43 : Int32) (u v v' : Int32), m < f1 → m < f2 → (∀ j, 1 ≤ j → j < 8 → f j = LP k j) → (∀ j, j ≠ k → x5 j = a 5 j) → ((v = -1 ∧ v' = -9) ∨ (v = v' ∧ 0 ≤ v'.toInt)) →
    (F_X6_seat_L35 M nC wW q n g b0 c0 fK0 fY LP (nI k) f1 b c f u v (nI i)).1 = (F_X7_seat_L30 o a (nI k) (a 5 k) f2 x38 x39 x40 x5 x30 x31 x32 x33 x34 x35 x41 x42 x43 u v' (nI i)).1 ∧ (F_X6_seat_L35 M nC wW q n g b0 c0 fK0 fY LP (nI k) f1 b c f u v (nI i)).2.2.2.2 = fY ∧ ((F_X7_seat_L30 o a (nI k) (a 5 k) f2 x38 x39 x40 x5 x30 x31 x32 x33 x34 x35 x41 x42 x43 u v' (nI i)).2.2.2.2.2.2.2.2.2.2.1) = a 0 ∧ ((F_X7_seat_L30 o a (nI k) (a 5 k) f2 x38 x39 x40 x5 x30 x31 x32 x33 x34 x35 x41 x42 x43 u v' (nI i)).2.2.2.2.2.2.2.2.2.2.2.1) = a 5 := by
  intro m
  induction m with
  | zero =>
    intro i hi f1 f2 b c f x38 x39 x40 x5 x30 x31 x32 x33 x34 x35 x41 x42 x43 u v v' hf1 hf2 hf h5 hv
    match f1, f2, hf1, hf2 with
    | f1 + 1, f2 + 1, _, _ =>
      rw [F_X6_seat_L35, F_X7_seat_L30, if_pos (show (3 : Int32) ≤ nI i from nI_le (a := 3) (by omega) (by omega)), if_pos (show (3 : Int32) ≤ nI i from nI_le (a := 3) (by omega) (by omega))]
      refine ⟨rfl, rfl, rfl, ?_⟩
      show upd x5 (nI k).toNatClampNeg (a 5 k) = a 5
      rw [nI_clamp (by omega)]
      funext j
      by_cases e : j = k
      · rw [e, pk_us]
      · rw [pk_un e, h5 j e]
  | succ m ih =>
    intro i hi f1 f2 b c f x38 x39 x40 x5 x30 x31 x32 x33 x34 x35 x41 x42 x43 u v v' hf1 hf2 hf h5 hv
    match f1, f2, hf1, hf2 with
    | f1 + 1, f2 + 1, hf1, hf2 =>
      have hc3 : ¬ (3 : Int32) ≤ nI i := nI_ge (b := 3) (by omega) (by omega)
      have hi2 : 0 ≤ (nI i).toInt ∧ (nI i).toInt ≤ 2 := by rw [nI_toInt (by omega)]; omega
      have hdk := W.2.1.2.2.2.2
      have D : DR (mS (upd (upd (upd (upd (upd (upd (upd (upd (upd o 30 x30) 31 x31) 32 x32) 33 x33) 34 x34) 35 x35) 41 x41) 42 x42) 43 x43) k (a 8 k, a 9 k, a 10 k, a 11 k, a 12 k)) (va_up (va_up (va_up (va_up a 5 (upd x5 k (nI i))) 38 x38) 39 x39) 40 x40) := ⟨W.2.1.1, W.2.1.2.1, fun l hl => W.2.1.2.2.1 l hl, W.2.1.2.2.2.1, fun j hj => ⟨by
        show 0 ≤ (upd x5 k (nI i) j).toInt ∧ (upd x5 k (nI i) j).toInt ≤ 2
        by_cases e : j = k
        · rw [e, pk_us]; exact hi2
        · rw [pk_un e, h5 j e]; exact (hdk j hj).1, (hdk j hj).2⟩⟩
      have hl := W.1.2.2.2 k hk
      have V : rV (upd f 0 (nI i)) (va_up (va_up (va_up (va_up a 5 (upd x5 k (nI i))) 38 x38) 39 x39) 40 x40) k (a 8 k, a 9 k, a 10 k, a 11 k, a 12 k) := by
        obtain ⟨l0, l1, l2, l3, l4, l5, l6, l7⟩ := hl
        refine ⟨?_, ?_, ?_, ?_, ?_, ?_, ?_, ?_⟩
        · show upd f 0 (nI i) 0 = upd x5 k (nI i) k
          rw [pk_us, pk_us]
        · exact (hf 1 (by omega) (by omega)).trans l1
        · exact (hf 2 (by omega) (by omega)).trans l2
        · exact (hf 3 (by omega) (by omega)).trans l3
        · exact (hf 4 (by omega) (by omega)).trans l4
        · exact (hf 5 (by omega) (by omega)).trans l5
        · exact (hf 6 (by omega) (by omega)).trans l6
        · exact (hf 7 (by omega) (by omega)).trans l7
      have hM := dM_of (hdk k hk)
      obtain ⟨G, eG⟩ : ∃ G, G = F_X7_findMost (mS (upd (upd (upd (upd (upd (upd (upd (upd (upd o 30 x30) 31 x31) 32 x32) 33 x33) 34 x34) 35 x35) 41 x41) 42 x42) 43 x43) k (a 8 k, a 9 k, a 10 k, a 11 k, a 12 k)) (va_up (va_up (va_up (va_up a 5 (upd x5 k (nI i))) 38 x38) 39 x39) 40 x40) := ⟨_, rfl⟩
      obtain ⟨B, -, -, b3, b4, -, b6, -⟩ := mo_gen (S := mS (upd (upd (upd (upd (upd (upd (upd (upd (upd o 30 x30) 31 x31) 32 x32) 33 x33) 34 x34) 35 x35) 41 x41) 42 x42) 43 x43) k (a 8 k, a 9 k, a 10 k, a 11 k, a 12 k)) (a := (va_up (va_up (va_up (va_up a 5 (upd x5 k (nI i))) 38 x38) 39 x39) 40 x40)) (k := k) (f := upd f 0 (nI i)) ⟨W.1.1.1, W.1.1.2.1, fun j hj => W.1.1.2.2 j hj⟩ W.1.2.1.1 W.1.2.1.2 D hk rfl V hM (mo_hO (S := mS (upd (upd (upd (upd (upd (upd (upd (upd (upd o 30 x30) 31 x31) 32 x32) 33 x33) 34 x34) 35 x35) 41 x41) 42 x42) 43 x43) k (a 8 k, a 9 k, a 10 k, a 11 k, a 12 k)) D hM W.2.2.1 W.2.2.2) b c
      rw [← eG] at b6
      obtain ⟨Z, eZ⟩ : ∃ Z, Z = F_X4_greatest b c q n g (upd f 0 (nI i)) 1000000 := ⟨_, rfl⟩
      rw [← eZ] at b6 b4
      have g2 : 0 ≤ G.1.toInt := by rw [b6, b4]; exact b3
      have e1 : F_X6_seat_L35 M nC wW q n g b0 c0 fK0 fY LP (nI k) (f1 + 1) b c f u v (nI i) = if Z.1 ≤ v then F_X6_seat_L35 M nC wW q n g b0 c0 fK0 fY LP (nI k) f1 Z.2.1 Z.2.2 (upd f 0 (nI i)) u v (nI (i + 1)) else F_X6_seat_L35 M nC wW q n g b0 c0 fK0 fY LP (nI k) f1 Z.2.1 Z.2.2 (upd f 0 (nI i)) (nI i) Z.1 (nI (i + 1)) := by
        rw [F_X6_seat_L35, if_neg hc3]
        unfold F_X6_mostOf
        dsimp only
        rw [nI_1, ← eZ]
      have e2 : F_X7_seat_L30 o a (nI k) (a 5 k) (f2 + 1) x38 x39 x40 x5 x30 x31 x32 x33 x34 x35 x41 x42 x43 u v' (nI i) = if v' < G.1 then F_X7_seat_L30 o a (nI k) (a 5 k) f2 G.2.2.2.2.2.2.2.2.2.1 G.2.2.2.2.2.2.2.2.2.2.1 G.2.2.2.2.2.2.2.2.2.2.2 (upd x5 k (nI i)) (nI k) G.2.1 G.2.2.1 G.2.2.2.1 G.2.2.2.2.1 G.2.2.2.2.2.1 G.2.2.2.2.2.2.1 G.2.2.2.2.2.2.2.1 G.2.2.2.2.2.2.2.2.1 (nI i) G.1 (nI (i + 1)) else F_X7_seat_L30 o a (nI k) (a 5 k) f2 G.2.2.2.2.2.2.2.2.2.1 G.2.2.2.2.2.2.2.2.2.2.1 G.2.2.2.2.2.2.2.2.2.2.2 (upd x5 k (nI i)) (nI k) G.2.1 G.2.2.1 G.2.2.2.1 G.2.2.2.2.1 G.2.2.2.2.2.1 G.2.2.2.2.2.2.1 G.2.2.2.2.2.2.2.1 G.2.2.2.2.2.2.2.2.1 u v' (nI (i + 1)) := by
        have eG' : G = F_X7_findMost (mS (upd (upd (upd (upd (upd (upd (upd (upd (upd o 30 x30) 31 x31) 32 x32) 33 x33) 34 x34) 35 x35) 41 x41) 42 x42) 43 x43) k ((va_up (va_up (va_up (va_up a 5 (upd x5 k (nI i))) 38 x38) 39 x39) 40 x40) 8 k, (va_up (va_up (va_up (va_up a 5 (upd x5 k (nI i))) 38 x38) 39 x39) 40 x40) 9 k, (va_up (va_up (va_up (va_up a 5 (upd x5 k (nI i))) 38 x38) 39 x39) 40 x40) 10 k, (va_up (va_up (va_up (va_up a 5 (upd x5 k (nI i))) 38 x38) 39 x39) 40 x40) 11 k, (va_up (va_up (va_up (va_up a 5 (upd x5 k (nI i))) 38 x38) 39 x39) 40 x40) 12 k)) (va_up (va_up (va_up (va_up a 5 (upd x5 k (nI i))) 38 x38) 39 x39) 40 x40) := eG
        rw [F_X7_seat_L30, if_neg hc3]
        dsimp only
        rw [nI_clamp (show k < 2 ^ 31 by omega), mf_eq hk4 eG', nI_1]
      have hf' : ∀ j, 1 ≤ j → j < 8 → upd f 0 (nI i) j = LP k j := fun j h1 h2 => by rw [pk_un (by omega)]; exact hf j h1 h2
      have h5' : ∀ j, j ≠ k → upd x5 k (nI i) j = a 5 j := fun j hj => by rw [pk_un hj]; exact h5 j hj
      rw [e1, e2, ← b6]
      by_cases c2 : v' < G.1
      · rw [if_pos c2, if_neg (show ¬ G.1 ≤ v by
          rw [Int32.lt_iff_toInt_lt] at c2
          rw [Int32.le_iff_toInt_le]
          rcases hv with ⟨e, e2⟩ | ⟨e, -⟩
          · rw [e, show (-1 : Int32).toInt = -1 from rfl]; omega
          · rw [e]; omega)]
        exact ih (i + 1) (by omega) f1 f2 _ _ _ _ _ _ _ _ _ _ _ _ _ _ _ _ _ _ _ (by omega) (by omega) hf' h5' (Or.inr ⟨rfl, g2⟩)
      · rw [if_neg c2, if_pos (show G.1 ≤ v by
          rw [Int32.lt_iff_toInt_lt] at c2
          rw [Int32.le_iff_toInt_le]
          rcases hv with ⟨e, e2⟩ | ⟨e, -⟩
          · exfalso; rw [e2, show (-9 : Int32).toInt = -9 from rfl] at c2; omega
          · rw [e]; omega)]
        exact ih (i + 1) (by omega) f1 f2 _ _ _ _ _ _ _ _ _ _ _ _ _ _ _ _ _ _ _ (by omega) (by omega) hf' h5' hv
theorem rb_L {M : Nat → Int32} {nC : Int32} {q : Nat → Nat → Int32} {n : Int32} {g : Nat → Int32} {b0 : Nat → Nat → Int32} {c0 fQ : Nat → Int32} {o : Nat → Int32} {a : Nat → Nat → Int32} {P : SP} (R : rS q n o a) (h0 : 0 ≤ (o 13).toInt) (hP : pCol P = a 1 ∧ pN P = (o 13).toInt.toNat) {o1 : Int32 × (Nat → Nat → Int32) × (Nat → Int32)} {w : List Int32} (h13 : o1.2.2 13 = nI w.length) (hl : w.length ≤ 8) (hw : wAg (o1.2.1 10) w) : ∀ (m i : Nat), i + m = w.length → ∀ (f : Nat) (v : Int32), m < f → F_X6_readByPlan_L32 M nC q n g b0 c0 fQ o1 f v (nI i) = (s_rep P v (w.drop i), o1.2.1, o1.2.2) := by
  intro m
  induction m with
  | zero =>
    intro i hi f v hf
    match f, hf with
    | f + 1, _ =>
      rw [F_X6_readByPlan_L32, if_pos (show o1.2.2 13 ≤ nI i by rw [h13]; exact nI_le (by omega) (by omega)), List.drop_eq_nil_of_le (by omega)]
      rfl
  | succ m ih =>
    intro i hi f v hf
    match f, hf with
    | f + 1, hf =>
      have hlt : i < w.length := by omega
      have hwi : o1.2.1 10 i = w[i] := by
        have := hw i hlt
        rw [List.getElem?_eq_getElem hlt] at this
        exact (Option.some.inj this).symm
      have hpl : F_X4_planned o1.2.1 o1.2.2 (nI i) = w[i] := by
        unfold F_X4_planned
        rw [if_neg (nI_nl0 (by omega)), if_neg (show ¬ o1.2.2 13 ≤ nI i by rw [h13]; exact nI_ge (by omega) (by omega)), q_at (by omega) (by omega), hwi]
      have hN : (o 13).toInt = ((o 13).toInt.toNat : Int) := by omega
      have h8 : n.toInt ≤ 8 := R.2.1
      have hn : n = o 13 := R.1
      rw [F_X6_readByPlan_L32, if_neg (show ¬ o1.2.2 13 ≤ nI i by rw [h13]; exact nI_ge (by omega) (by omega))]
      dsimp only
      rw [hpl, nl_eq R w[i] v hN, List.drop_eq_getElem_cons hlt, nI_1]
      show _ = (s_rep P (match fr (un (pCol P) v w[i]) (pN P) 0 with
        | none => v
        | some l => v ||| ((1 : Int32) <<< (nI l &&& 31))) (w.drop (i + 1)), o1.2.1, o1.2.2)
      rw [hP.1, hP.2]
      cases e : fr (un (a 1) v w[i]) (o 13).toInt.toNat 0 with
      | none =>
        rw [if_pos (show eo none = (-9 : Int32) from rfl)]
        exact ih (i + 1) (by omega) f v (by omega)
      | some l =>
        have hl8 : l < 8 := by
          have := (fr_some _ _ _ e).1
          rw [hn] at h8
          omega
        rw [if_neg (show ¬ eo (some l) = (-9 : Int32) from eo_n9 (by omega))]
        exact ih (i + 1) (by omega) f (v ||| ((1 : Int32) <<< (nI l &&& 31))) (by omega)
theorem rb_ok {M : Nat → Int32} {q : Nat → Nat → Int32} {n : Int32} {g : Nat → Int32} {nC : Int32} {L : Nat → Nat → Int32} {o : Nat → Int32} {a : Nat → Nat → Int32} (W : WR q n g nC L o a) {k : Nat} (hk : (k : Int) < (o 14).toInt) (bR : Nat → Nat → Int32) (cR : Nat → Int32) {G : Int32 × Int32 × Int32 × Int32 × Int32 × Int32 × Int32 × Int32 × Int32 × (Nat → Int32) × (Nat → Int32) × (Nat → Int32)} (eG : G = F_X7_findMost (mS o k (a 8 k, a 9 k, a 10 k, a 11 k, a 12 k)) a) : F_X6_readByPlan M nC q n g bR cR (L k) = (G.2.2.2.2.2.2.2.2.1, (F_X4_greatest bR cR q n g (L k) 1000000).2.1, (F_X4_greatest bR cR q n g (L k) 1000000).2.2) := by
  obtain ⟨-, -, b, hbi, hcB, hRB⟩ := W.mo hk bR cR eG
  have h6 : L k 6 = a 11 k := (W.1.2.2.2 k hk).2.2.2.2.2.2.1
  have h := rb_L (M := M) (nC := nC) (g := g) (b0 := bR) (c0 := cR) (fQ := L k) (P := rP (mS o k (a 8 k, a 9 k, a 10 k, a 11 k, a 12 k)) a) W.1.1 W.2.1.1.1 ⟨rfl, rfl⟩ (o1 := ((F_X4_greatest bR cR q n g (L k) 1000000).1, (F_X4_greatest bR cR q n g (L k) 1000000).2.1, (F_X4_greatest bR cR q n g (L k) 1000000).2.2)) hcB.2.1 hcB.2.2.1 hcB.2.2.2 b.2.2.length 0 (by omega) (((((F_X4_greatest bR cR q n g (L k) 1000000).2.2 13).toInt - (0 : Int32).toInt).toNat) + 1) (a 11 k) (by rw [hcB.2.1, nI_toInt (by have := hcB.2.2.1; omega), show (0 : Int32).toInt = 0 from rfl]; omega)
  unfold F_X6_readByPlan
  dsimp only
  rw [h6, hRB.2.2.1, hbi.1]
  exact h

theorem t_seat {oM : Nat → Int32} {nC : Int32} {qS : Nat → Nat → Int32} {nS : Int32} {gB : Nat → Int32} {LP : Nat → Nat → Int32} {fN : Nat → Int32} {nN : Int32} {fZ : Nat → Int32} {fY : Nat → Int32} {nE : Int32} {qU : Nat → Nat → Int32} {nU : Int32} {gH : Nat → Int32} {LQ : Nat → Nat → Int32} {oO : Nat → Int32} {aO : Nat → Nat → Int32} {wW : Nat → Nat} {bR : Nat → Nat → Int32} {cR : Nat → Int32} {fK : Nat → Int32} {p0 : Int32} (h : INV oM nC qS nS gB LP fN nN fZ fY nE qU nU gH LQ oO aO) {z : Int32 × (Nat → Nat → Int32) × (Nat → Int32) × (Nat → Int32) × (Nat → Int32)} (ez : z = F_X6_seat oM nC wW qS nS gB bR cR fK fY LP p0) {y : Int32 × Int32 × Int32 × Int32 × Int32 × Int32 × Int32 × Int32 × Int32 × Int32 × (Nat → Int32) × (Nat → Int32) × (Nat → Int32) × (Nat → Int32) × (Nat → Int32)} (ey : y = F_X7_seat oO aO p0) : z.1 = y.1 ∧ INV oM nC qS nS gB LP fN nN fZ z.2.2.2.2 nE qU nU gH LQ (upd (upd (upd (upd (upd (upd (upd (upd (upd oO 30 y.2.1) 31 y.2.2.1) 32 y.2.2.2.1) 33 y.2.2.2.2.1) 34 y.2.2.2.2.2.1) 35 y.2.2.2.2.2.2.1) 41 y.2.2.2.2.2.2.2.1) 42 y.2.2.2.2.2.2.2.2.1) 43 y.2.2.2.2.2.2.2.2.2.1) (va_up (va_up (va_up (va_up (va_up aO 0 y.2.2.2.2.2.2.2.2.2.2.1) 5 y.2.2.2.2.2.2.2.2.2.2.2.1) 38 y.2.2.2.2.2.2.2.2.2.2.2.2.1) 39 y.2.2.2.2.2.2.2.2.2.2.2.2.2.1) 40 y.2.2.2.2.2.2.2.2.2.2.2.2.2.2) := by
  have key : ∀ w : Int32, -7 < w.toInt → w.toInt ≤ 0 → z = ((F_X6_refuse oM fY w).1, bR, cR, fK, (F_X6_refuse oM fY w).2) → y = ((F_X7_no oO aO w).1, oO 30, oO 31, oO 32, oO 33, oO 34, oO 35, oO 41, oO 42, oO 43, (F_X7_no oO aO w).2, aO 5, aO 38, aO 39, aO 40) → z.1 = y.1 ∧ INV oM nC qS nS gB LP fN nN fZ z.2.2.2.2 nE qU nU gH LQ (upd (upd (upd (upd (upd (upd (upd (upd (upd oO 30 y.2.1) 31 y.2.2.1) 32 y.2.2.2.1) 33 y.2.2.2.2.1) 34 y.2.2.2.2.2.1) 35 y.2.2.2.2.2.2.1) 41 y.2.2.2.2.2.2.2.1) 42 y.2.2.2.2.2.2.2.2.1) 43 y.2.2.2.2.2.2.2.2.2.1) (va_up (va_up (va_up (va_up (va_up aO 0 y.2.2.2.2.2.2.2.2.2.2.1) 5 y.2.2.2.2.2.2.2.2.2.2.2.1) 38 y.2.2.2.2.2.2.2.2.2.2.2.2.1) 39 y.2.2.2.2.2.2.2.2.2.2.2.2.2.1) 40 y.2.2.2.2.2.2.2.2.2.2.2.2.2.2) := by
    intro w hw1 hw2 e1 e2
    have u := ref_no (M := oM) (o := oO) (a := aO) (w := w) h.2.2.1 hw1 hw2
    clear ez ey
    subst e1 e2
    exact ⟨u.1, h.cg u.2 rfl rfl rfl rfl rfl rfl rfl rfl rfl rfl rfl rfl rfl rfl rfl rfl rfl rfl rfl rfl rfl rfl rfl rfl rfl rfl⟩
  rcases wk_lk (p := p0) (a := aO) h.1.2.2.1 h.2.1.2.1 with ⟨w1, w2, k, hk, hk4, hk1, hkc⟩ | ⟨w1, w2⟩
  · have W : WR qS nS gB nC LP oO aO := ⟨h.1, h.2.1, h.2.2.2.2.2.1.1, h.2.2.2.2.2.1.2⟩
    obtain ⟨w, a1, a2, a3⟩ := st_L (M := oM) (wW := wW) (b0 := bR) (c0 := cR) (fK0 := fK) (fY := fY) W hk4 hk1 3 0 rfl ((((3 : Int32).toInt - (0 : Int32).toInt).toNat) + 1) ((((3 : Int32).toInt - (0 : Int32).toInt).toNat) + 1) bR cR (F_X2_become fK (LP k)) (aO 38) (aO 39) (aO 40) (aO 5) (oO 30) (oO 31) (oO 32) (oO 33) (oO 34) (oO 35) (oO 41) (oO 42) (oO 43) 0 (-1) (-9) (by decide) (by decide) (fun j h1 h2 => by
      match j, h1, h2 with
      | 1, _, _ => rfl
      | 2, _, _ => rfl
      | 3, _, _ => rfl
      | 4, _, _ => rfl
      | 5, _, _ => rfl
      | 6, _, _ => rfl
      | 7, _, _ => rfl) (fun j _ => rfl) (Or.inl ⟨rfl, rfl⟩)
    have e1 : z = F_X6_seat_L35 oM nC wW qS nS gB bR cR fK fY LP (nI k) ((((3 : Int32).toInt - (0 : Int32).toInt).toNat) + 1) bR cR (F_X2_become fK (LP k)) 0 (-1) (nI 0) := by
      rw [ez]; unfold F_X6_seat; dsimp only; rw [if_pos w1, hkc, ← hk]; rfl
    have e2 : y = F_X7_seat_L30 oO aO (nI k) (aO 5 k) ((((3 : Int32).toInt - (0 : Int32).toInt).toNat) + 1) (aO 38) (aO 39) (aO 40) (aO 5) (oO 30) (oO 31) (oO 32) (oO 33) (oO 34) (oO 35) (oO 41) (oO 42) (oO 43) 0 (-9) (nI 0) := by
      rw [ey]; unfold F_X7_seat; dsimp only; rw [if_neg w2, hkc, ← hk]; rfl
    rw [← e1, ← e2] at w
    rw [← e1] at a1
    rw [← e2] at a2 a3
    clear e1 e2 ez ey key
    refine ⟨w, h.cg (?_ : rY _ _) rfl rfl rfl rfl rfl rfl rfl rfl rfl rfl rfl rfl rfl rfl rfl a3 rfl rfl rfl rfl rfl rfl rfl rfl rfl rfl⟩
    rw [a1]
    show rY fY y.2.2.2.2.2.2.2.2.2.2.1
    rw [a2]
    exact h.2.2.1
  · exact key (-1) (by decide) (by decide) (by rw [ez]; unfold F_X6_seat; dsimp only; rw [if_neg w1]) (by rw [ey]; unfold F_X7_seat; dsimp only; rw [if_pos w2])

theorem t_more {oM : Nat → Int32} {nC : Int32} {qS : Nat → Nat → Int32} {nS : Int32} {gB : Nat → Int32} {LP : Nat → Nat → Int32} {fN : Nat → Int32} {nN : Int32} {fZ : Nat → Int32} {fY : Nat → Int32} {nE : Int32} {qU : Nat → Nat → Int32} {nU : Int32} {gH : Nat → Int32} {LQ : Nat → Nat → Int32} {oO : Nat → Int32} {aO : Nat → Nat → Int32} {wW : Nat → Nat} {bR : Nat → Nat → Int32} {cR : Nat → Int32} {p0 : Int32} {p1 : Int32} (h : INV oM nC qS nS gB LP fN nN fZ fY nE qU nU gH LQ oO aO) {z : Int32 × (Nat → Nat → Int32) × (Nat → Int32) × (Nat → Int32)} (ez : z = F_X6_more oM nC wW qS nS gB bR cR fY LP p0 p1) {y : Int32 × Int32 × Int32 × Int32 × Int32 × Int32 × Int32 × Int32 × Int32 × Int32 × (Nat → Int32) × (Nat → Int32) × (Nat → Int32) × (Nat → Int32)} (ey : y = F_X7_more oO aO p0 p1) : z.1 = y.1 ∧ INV oM nC qS nS gB LP fN nN fZ z.2.2.2 nE qU nU gH LQ (upd (upd (upd (upd (upd (upd (upd (upd (upd oO 30 y.2.1) 31 y.2.2.1) 32 y.2.2.2.1) 33 y.2.2.2.2.1) 34 y.2.2.2.2.2.1) 35 y.2.2.2.2.2.2.1) 41 y.2.2.2.2.2.2.2.1) 42 y.2.2.2.2.2.2.2.2.1) 43 y.2.2.2.2.2.2.2.2.2.1) (va_up (va_up (va_up (va_up aO 0 y.2.2.2.2.2.2.2.2.2.2.1) 38 y.2.2.2.2.2.2.2.2.2.2.2.1) 39 y.2.2.2.2.2.2.2.2.2.2.2.2.1) 40 y.2.2.2.2.2.2.2.2.2.2.2.2.2) := by
  have key : z = (1000000000 - (F_X6_refuse oM fY (-1)).1, bR, cR, (F_X6_refuse oM fY (-1)).2) → F_X7_areTwo oO aO p0 p1 = 0 → z.1 = y.1 ∧ INV oM nC qS nS gB LP fN nN fZ z.2.2.2 nE qU nU gH LQ (upd (upd (upd (upd (upd (upd (upd (upd (upd oO 30 y.2.1) 31 y.2.2.1) 32 y.2.2.2.1) 33 y.2.2.2.2.1) 34 y.2.2.2.2.2.1) 35 y.2.2.2.2.2.2.1) 41 y.2.2.2.2.2.2.2.1) 42 y.2.2.2.2.2.2.2.2.1) 43 y.2.2.2.2.2.2.2.2.2.1) (va_up (va_up (va_up (va_up aO 0 y.2.2.2.2.2.2.2.2.2.2.1) 38 y.2.2.2.2.2.2.2.2.2.2.2.1) 39 y.2.2.2.2.2.2.2.2.2.2.2.2.1) 40 y.2.2.2.2.2.2.2.2.2.2.2.2.2) := by
    intro e1 e3
    have e2 : y = (1000000000 - (F_X6_refuse oM fY (-1)).1, oO 30, oO 31, oO 32, oO 33, oO 34, oO 35, oO 41, oO 42, oO 43, (F_X7_no oO aO (-1)).2, aO 38, aO 39, aO 40) := by
      rw [ey]; unfold F_X7_more; dsimp only; rw [e3, if_pos rfl]; rfl
    have u := ref_no (M := oM) (o := oO) (a := aO) (w := -1) h.2.2.1 (by decide) (by decide)
    clear ez ey
    subst e1 e2
    exact ⟨rfl, h.cg u.2 rfl rfl rfl rfl rfl rfl rfl rfl rfl rfl rfl rfl rfl rfl rfl rfl rfl rfl rfl rfl rfl rfl rfl rfl rfl rfl⟩
  rcases wk_lk (p := p0) (a := aO) h.1.2.2.1 h.2.1.2.1 with ⟨w1, w2, k, hk, hk4, hk1, hkc⟩ | ⟨w1, w2⟩
  · rcases wk_lk (p := p1) (a := aO) h.1.2.2.1 h.2.1.2.1 with ⟨u1, u2, j, hj, hj4, hj1, hjc⟩ | ⟨u1, u2⟩
    · by_cases ce : p0 = p1
      · exact key (by rw [ez]; unfold F_X6_more; dsimp only; rw [if_pos w1, if_pos u1, if_pos ce]) (by unfold F_X7_areTwo; dsimp only; rw [if_neg w2, if_neg u2, if_pos ce])
      · have hat : F_X7_areTwo oO aO p0 p1 = 1 := by unfold F_X7_areTwo; dsimp only; rw [if_neg w2, if_neg u2, if_neg ce]
        have W : WR qS nS gB nC LP oO aO := ⟨h.1, h.2.1, h.2.2.2.2.2.1.1, h.2.2.2.2.2.1.2⟩
        obtain ⟨G, eG⟩ : ∃ G, G = F_X7_findMost (mS oO k (aO 8 k, aO 9 k, aO 10 k, aO 11 k, aO 12 k)) aO := ⟨_, rfl⟩
        have W2 := W.scr G.2.2.2.2.2.2.2.2.2.1 G.2.2.2.2.2.2.2.2.2.2.1 G.2.2.2.2.2.2.2.2.2.2.2 (nI k) G.2.1 G.2.2.1 G.2.2.2.1 G.2.2.2.2.1 G.2.2.2.2.2.1 G.2.2.2.2.2.2.1 G.2.2.2.2.2.2.2.1 G.2.2.2.2.2.2.2.2.1
        obtain ⟨H, eH⟩ : ∃ H, H = F_X7_findMost (mS (upd (upd (upd (upd (upd (upd (upd (upd (upd oO 30 (nI k)) 31 G.2.1) 32 G.2.2.1) 33 G.2.2.2.1) 34 G.2.2.2.2.1) 35 G.2.2.2.2.2.1) 41 G.2.2.2.2.2.2.1) 42 G.2.2.2.2.2.2.2.1) 43 G.2.2.2.2.2.2.2.2.1) j ((va_up (va_up (va_up aO 38 G.2.2.2.2.2.2.2.2.2.1) 39 G.2.2.2.2.2.2.2.2.2.2.1) 40 G.2.2.2.2.2.2.2.2.2.2.2) 8 j, (va_up (va_up (va_up aO 38 G.2.2.2.2.2.2.2.2.2.1) 39 G.2.2.2.2.2.2.2.2.2.2.1) 40 G.2.2.2.2.2.2.2.2.2.2.2) 9 j, (va_up (va_up (va_up aO 38 G.2.2.2.2.2.2.2.2.2.1) 39 G.2.2.2.2.2.2.2.2.2.2.1) 40 G.2.2.2.2.2.2.2.2.2.2.2) 10 j, (va_up (va_up (va_up aO 38 G.2.2.2.2.2.2.2.2.2.1) 39 G.2.2.2.2.2.2.2.2.2.2.1) 40 G.2.2.2.2.2.2.2.2.2.2.2) 11 j, (va_up (va_up (va_up aO 38 G.2.2.2.2.2.2.2.2.2.1) 39 G.2.2.2.2.2.2.2.2.2.2.1) 40 G.2.2.2.2.2.2.2.2.2.2.2) 12 j)) (va_up (va_up (va_up aO 38 G.2.2.2.2.2.2.2.2.2.1) 39 G.2.2.2.2.2.2.2.2.2.2.1) 40 G.2.2.2.2.2.2.2.2.2.2.2) := ⟨_, rfl⟩
        obtain ⟨g1, -⟩ := W.mo hk1 bR cR eG
        obtain ⟨g2, -⟩ := W2.mo (k := j) hj1 ((F_X4_greatest bR cR qS nS gB (LP k) 1000000).2.1) ((F_X4_greatest bR cR qS nS gB (LP k) 1000000).2.2) eH
        have e1 : z = (G.1 - H.1, (F_X4_greatest (F_X4_greatest bR cR qS nS gB (LP k) 1000000).2.1 (F_X4_greatest bR cR qS nS gB (LP k) 1000000).2.2 qS nS gB (LP j) 1000000).2.1, (F_X4_greatest (F_X4_greatest bR cR qS nS gB (LP k) 1000000).2.1 (F_X4_greatest bR cR qS nS gB (LP k) 1000000).2.2 qS nS gB (LP j) 1000000).2.2, fY) := by
          rw [ez]; unfold F_X6_more F_X6_mostOf; dsimp only; rw [if_pos w1, if_pos u1, if_neg ce, hkc, hjc, ← g1, ← g2]
        have e2 : y = (G.1 - H.1, nI j, H.2.1, H.2.2.1, H.2.2.2.1, H.2.2.2.2.1, H.2.2.2.2.2.1, H.2.2.2.2.2.2.1, H.2.2.2.2.2.2.2.1, H.2.2.2.2.2.2.2.2.1, aO 0, H.2.2.2.2.2.2.2.2.2.1, H.2.2.2.2.2.2.2.2.2.2.1, H.2.2.2.2.2.2.2.2.2.2.2) := by
          rw [ey]; unfold F_X7_more; dsimp only; rw [hat, if_neg (show ¬ (1 : Int32) = 0 by decide), hk, mf_eq hk4 eG]
          dsimp only
          rw [hj, mf_eq hj4 eH]
        clear ez ey key
        subst e1 e2
        exact ⟨rfl, h.cg h.2.2.1 rfl rfl rfl rfl rfl rfl rfl rfl rfl rfl rfl rfl rfl rfl rfl rfl rfl rfl rfl rfl rfl rfl rfl rfl rfl rfl⟩
    · exact key (by rw [ez]; unfold F_X6_more; dsimp only; rw [if_pos w1, if_neg u1]) (by unfold F_X7_areTwo; dsimp only; rw [if_neg w2, if_pos u2])
  · rcases wk_lk (p := p1) (a := aO) h.1.2.2.1 h.2.1.2.1 with ⟨u1, u2, -⟩ | ⟨u1, u2⟩
    · exact key (by rw [ez]; unfold F_X6_more; dsimp only; rw [if_neg w1, if_pos u1]) (by unfold F_X7_areTwo; dsimp only; rw [if_pos w2])
    · exact key (by rw [ez]; unfold F_X6_more; dsimp only; rw [if_neg w1, if_neg u1]) (by unfold F_X7_areTwo; dsimp only; rw [if_pos w2])

theorem t_both {oM : Nat → Int32} {nC : Int32} {qS : Nat → Nat → Int32} {nS : Int32} {gB : Nat → Int32} {LP : Nat → Nat → Int32} {fN : Nat → Int32} {nN : Int32} {fZ : Nat → Int32} {fY : Nat → Int32} {nE : Int32} {qU : Nat → Nat → Int32} {nU : Int32} {gH : Nat → Int32} {LQ : Nat → Nat → Int32} {oO : Nat → Int32} {aO : Nat → Nat → Int32} {wW : Nat → Nat} {bR : Nat → Nat → Int32} {cR : Nat → Int32} {p0 : Int32} {p1 : Int32} (h : INV oM nC qS nS gB LP fN nN fZ fY nE qU nU gH LQ oO aO) {z : Int32 × (Nat → Nat → Int32) × (Nat → Int32) × (Nat → Int32)} (ez : z = F_X6_both oM nC wW qS nS gB bR cR fY LP p0 p1) {y : Int32 × Int32 × Int32 × Int32 × Int32 × Int32 × Int32 × Int32 × Int32 × Int32 × (Nat → Int32) × (Nat → Int32) × (Nat → Int32) × (Nat → Int32)} (ey : y = F_X7_both oO aO p0 p1) : z.1 = y.1 ∧ INV oM nC qS nS gB LP fN nN fZ z.2.2.2 nE qU nU gH LQ (upd (upd (upd (upd (upd (upd (upd (upd (upd oO 30 y.2.1) 31 y.2.2.1) 32 y.2.2.2.1) 33 y.2.2.2.2.1) 34 y.2.2.2.2.2.1) 35 y.2.2.2.2.2.2.1) 41 y.2.2.2.2.2.2.2.1) 42 y.2.2.2.2.2.2.2.2.1) 43 y.2.2.2.2.2.2.2.2.2.1) (va_up (va_up (va_up (va_up aO 0 y.2.2.2.2.2.2.2.2.2.2.1) 38 y.2.2.2.2.2.2.2.2.2.2.2.1) 39 y.2.2.2.2.2.2.2.2.2.2.2.2.1) 40 y.2.2.2.2.2.2.2.2.2.2.2.2.2) := by
  have key : z = ((F_X6_refuse oM fY (-1)).1, bR, cR, (F_X6_refuse oM fY (-1)).2) → F_X7_areTwo oO aO p0 p1 = 0 → z.1 = y.1 ∧ INV oM nC qS nS gB LP fN nN fZ z.2.2.2 nE qU nU gH LQ (upd (upd (upd (upd (upd (upd (upd (upd (upd oO 30 y.2.1) 31 y.2.2.1) 32 y.2.2.2.1) 33 y.2.2.2.2.1) 34 y.2.2.2.2.2.1) 35 y.2.2.2.2.2.2.1) 41 y.2.2.2.2.2.2.2.1) 42 y.2.2.2.2.2.2.2.2.1) 43 y.2.2.2.2.2.2.2.2.2.1) (va_up (va_up (va_up (va_up aO 0 y.2.2.2.2.2.2.2.2.2.2.1) 38 y.2.2.2.2.2.2.2.2.2.2.2.1) 39 y.2.2.2.2.2.2.2.2.2.2.2.2.1) 40 y.2.2.2.2.2.2.2.2.2.2.2.2.2) := by
    intro e1 e3
    have e2 : y = ((F_X6_refuse oM fY (-1)).1, oO 30, oO 31, oO 32, oO 33, oO 34, oO 35, oO 41, oO 42, oO 43, (F_X7_no oO aO (-1)).2, aO 38, aO 39, aO 40) := by
      rw [ey]; unfold F_X7_both; dsimp only; rw [e3, if_pos rfl]; rfl
    have u := ref_no (M := oM) (o := oO) (a := aO) (w := -1) h.2.2.1 (by decide) (by decide)
    clear ez ey
    subst e1 e2
    exact ⟨rfl, h.cg u.2 rfl rfl rfl rfl rfl rfl rfl rfl rfl rfl rfl rfl rfl rfl rfl rfl rfl rfl rfl rfl rfl rfl rfl rfl rfl rfl⟩
  rcases wk_lk (p := p0) (a := aO) h.1.2.2.1 h.2.1.2.1 with ⟨w1, w2, k, hk, hk4, hk1, hkc⟩ | ⟨w1, w2⟩
  · rcases wk_lk (p := p1) (a := aO) h.1.2.2.1 h.2.1.2.1 with ⟨u1, u2, j, hj, hj4, hj1, hjc⟩ | ⟨u1, u2⟩
    · by_cases ce : p0 = p1
      · exact key (by rw [ez]; unfold F_X6_both; dsimp only; rw [if_pos w1, if_pos u1, if_pos ce]) (by unfold F_X7_areTwo; dsimp only; rw [if_neg w2, if_neg u2, if_pos ce])
      · have hat : F_X7_areTwo oO aO p0 p1 = 1 := by unfold F_X7_areTwo; dsimp only; rw [if_neg w2, if_neg u2, if_neg ce]
        have W : WR qS nS gB nC LP oO aO := ⟨h.1, h.2.1, h.2.2.2.2.2.1.1, h.2.2.2.2.2.1.2⟩
        obtain ⟨G, eG⟩ : ∃ G, G = F_X7_findMost (mS oO k (aO 8 k, aO 9 k, aO 10 k, aO 11 k, aO 12 k)) aO := ⟨_, rfl⟩
        have W2 := W.scr G.2.2.2.2.2.2.2.2.2.1 G.2.2.2.2.2.2.2.2.2.2.1 G.2.2.2.2.2.2.2.2.2.2.2 (nI k) G.2.1 G.2.2.1 G.2.2.2.1 G.2.2.2.2.1 G.2.2.2.2.2.1 G.2.2.2.2.2.2.1 G.2.2.2.2.2.2.2.1 G.2.2.2.2.2.2.2.2.1
        obtain ⟨H, eH⟩ : ∃ H, H = F_X7_findMost (mS (upd (upd (upd (upd (upd (upd (upd (upd (upd oO 30 (nI k)) 31 G.2.1) 32 G.2.2.1) 33 G.2.2.2.1) 34 G.2.2.2.2.1) 35 G.2.2.2.2.2.1) 41 G.2.2.2.2.2.2.1) 42 G.2.2.2.2.2.2.2.1) 43 G.2.2.2.2.2.2.2.2.1) j ((va_up (va_up (va_up aO 38 G.2.2.2.2.2.2.2.2.2.1) 39 G.2.2.2.2.2.2.2.2.2.2.1) 40 G.2.2.2.2.2.2.2.2.2.2.2) 8 j, (va_up (va_up (va_up aO 38 G.2.2.2.2.2.2.2.2.2.1) 39 G.2.2.2.2.2.2.2.2.2.2.1) 40 G.2.2.2.2.2.2.2.2.2.2.2) 9 j, (va_up (va_up (va_up aO 38 G.2.2.2.2.2.2.2.2.2.1) 39 G.2.2.2.2.2.2.2.2.2.2.1) 40 G.2.2.2.2.2.2.2.2.2.2.2) 10 j, (va_up (va_up (va_up aO 38 G.2.2.2.2.2.2.2.2.2.1) 39 G.2.2.2.2.2.2.2.2.2.2.1) 40 G.2.2.2.2.2.2.2.2.2.2.2) 11 j, (va_up (va_up (va_up aO 38 G.2.2.2.2.2.2.2.2.2.1) 39 G.2.2.2.2.2.2.2.2.2.2.1) 40 G.2.2.2.2.2.2.2.2.2.2.2) 12 j)) (va_up (va_up (va_up aO 38 G.2.2.2.2.2.2.2.2.2.1) 39 G.2.2.2.2.2.2.2.2.2.2.1) 40 G.2.2.2.2.2.2.2.2.2.2.2) := ⟨_, rfl⟩
        have g1 := rb_ok (M := oM) W hk1 bR cR eG
        have g2 := rb_ok (M := oM) W2 (k := j) hj1 ((F_X4_greatest bR cR qS nS gB (LP k) 1000000).2.1) ((F_X4_greatest bR cR qS nS gB (LP k) 1000000).2.2) eH
        obtain ⟨w, ew⟩ : ∃ w : Int32, w = F_X7_worthOfAll (upd (upd (upd (upd (upd (upd (upd (upd (upd oO 30 (nI j)) 31 H.2.1) 32 H.2.2.1) 33 H.2.2.2.1) 34 H.2.2.2.2.1) 35 H.2.2.2.2.2.1) 41 H.2.2.2.2.2.2.1) 42 H.2.2.2.2.2.2.2.1) 43 H.2.2.2.2.2.2.2.2.1) (va_up (va_up (va_up aO 38 H.2.2.2.2.2.2.2.2.2.1) 39 H.2.2.2.2.2.2.2.2.2.2.1) 40 H.2.2.2.2.2.2.2.2.2.2.2) (G.2.2.2.2.2.2.2.2.1 ||| H.2.2.2.2.2.2.2.2.1) := ⟨_, rfl⟩
        have hw : F_X5_worthOfBits qS nS (G.2.2.2.2.2.2.2.2.1 ||| H.2.2.2.2.2.2.2.2.1) = w := by
          rw [ew]
          exact p_worths (W.scr H.2.2.2.2.2.2.2.2.2.1 H.2.2.2.2.2.2.2.2.2.2.1 H.2.2.2.2.2.2.2.2.2.2.2 (nI j) H.2.1 H.2.2.1 H.2.2.2.1 H.2.2.2.2.1 H.2.2.2.2.2.1 H.2.2.2.2.2.2.1 H.2.2.2.2.2.2.2.1 H.2.2.2.2.2.2.2.2.1).1.1
        have e1 : z = (w, (F_X4_greatest (F_X4_greatest bR cR qS nS gB (LP k) 1000000).2.1 (F_X4_greatest bR cR qS nS gB (LP k) 1000000).2.2 qS nS gB (LP j) 1000000).2.1, (F_X4_greatest (F_X4_greatest bR cR qS nS gB (LP k) 1000000).2.1 (F_X4_greatest bR cR qS nS gB (LP k) 1000000).2.2 qS nS gB (LP j) 1000000).2.2, fY) := by
          rw [ez]; unfold F_X6_both; dsimp only; rw [if_pos w1, if_pos u1, if_neg ce, hkc, hjc, g1]
          dsimp only
          rw [g2]
          dsimp only
          rw [hw]
        have e2 : y = (w, nI j, H.2.1, H.2.2.1, H.2.2.2.1, H.2.2.2.2.1, H.2.2.2.2.2.1, H.2.2.2.2.2.2.1, H.2.2.2.2.2.2.2.1, H.2.2.2.2.2.2.2.2.1, aO 0, H.2.2.2.2.2.2.2.2.2.1, H.2.2.2.2.2.2.2.2.2.2.1, H.2.2.2.2.2.2.2.2.2.2.2) := by
          rw [ey]; unfold F_X7_both; dsimp only; rw [hat, if_neg (show ¬ (1 : Int32) = 0 by decide), hk, mf_eq hk4 eG]
          dsimp only
          rw [hj, mf_eq hj4 eH]
          dsimp only
          rw [← ew]
        clear ez ey key
        subst e1 e2
        exact ⟨rfl, h.cg h.2.2.1 rfl rfl rfl rfl rfl rfl rfl rfl rfl rfl rfl rfl rfl rfl rfl rfl rfl rfl rfl rfl rfl rfl rfl rfl rfl rfl⟩
    · exact key (by rw [ez]; unfold F_X6_both; dsimp only; rw [if_pos w1, if_neg u1]) (by unfold F_X7_areTwo; dsimp only; rw [if_neg w2, if_pos u2])
  · rcases wk_lk (p := p1) (a := aO) h.1.2.2.1 h.2.1.2.1 with ⟨u1, u2, -⟩ | ⟨u1, u2⟩
    · exact key (by rw [ez]; unfold F_X6_both; dsimp only; rw [if_neg w1, if_pos u1]) (by unfold F_X7_areTwo; dsimp only; rw [if_pos w2])
    · exact key (by rw [ez]; unfold F_X6_both; dsimp only; rw [if_neg w1, if_neg u1]) (by unfold F_X7_areTwo; dsimp only; rw [if_pos w2])
