/-! page, count, kinds -/
theorem bc_eq : ∀ t : Nat, t < 256 → F_J6_bitCount_0f7a4 (nI t) = F_X7_bits (nI t) := by decide +kernel
theorem bc_of {p : Int32} (h : ∀ i : Nat, 8 ≤ i → i < 32 → bt p i = false) : F_J6_bitCount_0f7a4 p = F_X7_bits p := by
  have e : p = nI p.toBitVec.toNat := by
    apply Int32.toBitVec_inj.1
    show p.toBitVec = BitVec.ofNat 32 p.toBitVec.toNat
    simp
  have hlt : p.toBitVec.toNat < 2 ^ 8 := by
    apply Nat.lt_pow_two_of_testBit
    intro i hi
    rcases Nat.lt_or_ge i 32 with c | c
    · exact h i hi c
    · exact b_big (x := p) c
  rw [e]
  exact bc_eq _ hlt
theorem wk_t {nC : Int32} {k N : Nat} (hC : nC.toInt = (N : Int)) (h4 : N ≤ 4) (hk : k < N) : wkb nC (nI k) = true := by
  unfold wkb
  rw [decide_eq_false (nI_pos (by omega)), decide_eq_false (by rw [Int32.le_iff_toInt_le, nI_toInt (by omega)]; omega), decide_eq_false (l4_nle (by omega))]
  rfl
theorem pg_L {M : Nat → Int32} {nC : Int32} {wW : Nat → Nat} {L0 : Nat → Nat → Int32} {o : Nat → Int32} {a : Nat → Nat → Int32} {N : Nat} (hC : nC.toInt = (N : Int)) (hC2 : (o 14).toInt = (N : Int)) (h4 : N ≤ 4) : ∀ (m k : Nat), k + m = N → ∀ (f1 f2 : Nat) (La : Nat → Nat → Int32) (b8 b9 b10 b11 b12 : Nat → Int32) (v : Int32), m < f1 → m < f2 → (∀ j, k ≤ j → j < N → La j 6 = b11 j ∧ ∀ i : Nat, 8 ≤ i → i < 32 → bt (b11 j) i = false) →
    ∃ w L' c8 c9 c10 c11 c12, F_X6_page_L4 M nC wW L0 f1 La v (nI k) = (w, L') ∧ F_X7_page_L4 o a f2 b10 b11 b12 b8 b9 v (nI k) = (w, c8, c9, c10, c11, c12) ∧ (∀ j, L' j = if k ≤ j ∧ j < N then F_X2_startPage (La j) else La j) ∧ (∀ j, c8 j = if k ≤ j ∧ j < N then 0 else b8 j) ∧ (∀ j, c9 j = if k ≤ j ∧ j < N then 0 else b9 j) ∧ (∀ j, c10 j = if k ≤ j ∧ j < N then 0 else b10 j) ∧ (∀ j, c11 j = if k ≤ j ∧ j < N then 0 else b11 j) ∧ (∀ j, c12 j = if k ≤ j ∧ j < N then 0 else b12 j) := by
  intro m
  induction m with
  | zero =>
    intro k hk f1 f2 La b8 b9 b10 b11 b12 v hf1 hf2 _
    match f1, f2, hf1, hf2 with
    | f1 + 1, f2 + 1, _, _ =>
      refine ⟨v, La, b8, b9, b10, b11, b12, ?_, ?_, fun j => by rw [if_neg (by omega)], fun j => by rw [if_neg (by omega)], fun j => by rw [if_neg (by omega)], fun j => by rw [if_neg (by omega)], fun j => by rw [if_neg (by omega)], fun j => by rw [if_neg (by omega)]⟩
      · rw [F_X6_page_L4, if_pos (by rw [Int32.le_iff_toInt_le, nI_toInt (by omega)]; omega)]
      · rw [F_X7_page_L4, if_pos (by rw [Int32.le_iff_toInt_le, nI_toInt (by omega)]; omega)]
  | succ m ih =>
    intro k hk f1 f2 La b8 b9 b10 b11 b12 v hf1 hf2 hL
    match f1, f2, hf1, hf2 with
    | f1 + 1, f2 + 1, hf1, hf2 =>
      obtain ⟨e6, hb⟩ := hL k (Nat.le_refl _) (by omega)
      obtain ⟨w, L', c8, c9, c10, c11, c12, h1, h2, hLj, g8, g9, g10, g11, g12⟩ := ih (k + 1) (by omega) f1 f2 (va_up La k (F_X2_startPage (La k))) (upd b8 k 0) (upd b9 k 0) (upd b10 k 0) (upd b11 k 0) (upd b12 k 0) (v + F_X7_bits (b11 k)) (by omega) (by omega) (fun j h5 h6 => by
        rw [va_up_ne _ _ (by omega), pk_un (by omega)]
        exact hL j (by omega) h6)
      have hu : ∀ (b : Nat → Int32) (j : Nat), (if k + 1 ≤ j ∧ j < N then (0 : Int32) else upd b k 0 j) = if k ≤ j ∧ j < N then 0 else b j := fun b j => by
        by_cases e : j = k
        · subst e; rw [if_neg (by omega), if_pos (by omega), pk_us]
        · rw [pk_un e]
          by_cases e2 : k + 1 ≤ j ∧ j < N
          · rw [if_pos e2, if_pos (by omega)]
          · rw [if_neg e2, if_neg (by omega)]
      refine ⟨w, L', c8, c9, c10, c11, c12, ?_, ?_, fun j => ?_, fun j => (g8 j).trans (hu b8 j), fun j => (g9 j).trans (hu b9 j), fun j => (g10 j).trans (hu b10 j), fun j => (g11 j).trans (hu b11 j), fun j => (g12 j).trans (hu b12 j)⟩
      · rw [F_X6_page_L4, if_neg (by rw [Int32.le_iff_toInt_le, nI_toInt (by omega)]; omega), if_pos (wk_t hC h4 (by omega))]
        dsimp only
        rw [nI_clamp (by omega), nI_1, e6, bc_of hb]
        exact h1
      · rw [F_X7_page_L4, if_neg (by rw [Int32.le_iff_toInt_le, nI_toInt (by omega)]; omega)]
        dsimp only
        unfold F_X7_isFresh
        show F_X7_page_L4 o a f2 (upd b10 (nI k).toNatClampNeg 0) (upd b11 (nI k).toNatClampNeg 0) (upd b12 (nI k).toNatClampNeg 0) (upd b8 (nI k).toNatClampNeg 0) (upd b9 (nI k).toNatClampNeg 0) (v + F_X7_bits (b11 (nI k).toNatClampNeg)) (nI k + 1) = _
        rw [nI_clamp (by omega), nI_1]
        exact h2
      · rw [hLj j]
        by_cases e : j = k
        · subst e; rw [if_neg (by omega), if_pos (by omega), va_up_self]
        · rw [va_up_ne _ _ e]
          by_cases e2 : k + 1 ≤ j ∧ j < N
          · rw [if_pos e2, if_pos (by omega)]
          · rw [if_neg e2, if_neg (by omega)]
theorem ic_L {o : Nat → Int32} {a : Nat → Nat → Int32} {c : Int32} {N : Nat} (hN : (o 13).toInt = N) (h8 : N ≤ 8) : ∀ (m k : Nat), k + m = N → ∀ (f : Nat) (x : Int32), m < f → ∀ i, i < 32 → bt (F_X7_inColumn_L4 o a c f x (nI k)) i = (bt x i || decide (k ≤ i ∧ i < N ∧ a 1 i = c)) := by
  intro m
  induction m with
  | zero =>
    intro k hk f x hf i hi
    match f, hf with
    | f + 1, _ =>
      rw [F_X7_inColumn_L4, if_pos (by rw [Int32.le_iff_toInt_le, nI_toInt (by omega)]; omega), decide_eq_false (by omega), Bool.or_false]
  | succ m ih =>
    intro k hk f x hf i hi
    match f, hf with
    | f + 1, hf =>
      rw [F_X7_inColumn_L4, if_neg (by rw [Int32.le_iff_toInt_le, nI_toInt (by omega)]; omega)]
      dsimp only
      rw [nI_1, nI_clamp (by omega)]
      by_cases d : a 1 k = c
      · rw [if_pos d, ih (k + 1) (by omega) f _ (by omega) i hi, b_set (by omega) hi, Bool.or_assoc]
        congr 1
        by_cases e : i = k
        · subst e; rw [decide_eq_true rfl, Bool.true_or, decide_eq_true ⟨by omega, by omega, d⟩]
        · rw [decide_eq_false e, Bool.false_or]
          exact decide_eq_decide.mpr ⟨fun q => ⟨by omega, q.2⟩, fun q => ⟨by omega, q.2⟩⟩
      · rw [if_neg d, ih (k + 1) (by omega) f _ (by omega) i hi, b_or, b_0, Bool.or_false]
        congr 1
        by_cases e : i = k
        · subst e; rw [decide_eq_false (by omega), decide_eq_false (fun q => d q.2.2)]
        · exact decide_eq_decide.mpr ⟨fun q => ⟨by omega, q.2⟩, fun q => ⟨by omega, q.2⟩⟩
theorem ic_b {o : Nat → Int32} {a : Nat → Nat → Int32} {c : Int32} {N : Nat} (hN : (o 13).toInt = N) (h8 : N ≤ 8) {i : Nat} (hi : i < 32) : bt (F_X7_inColumn o a c) i = decide (i < N ∧ a 1 i = c) := by
  have h := ic_L (o := o) (a := a) (c := c) hN h8 N 0 (by omega) ((((o 13).toInt - (0 : Int32).toInt).toNat) + 1) 0 (by rw [hN, show (0 : Int32).toInt = 0 from rfl]; omega) i hi
  unfold F_X7_inColumn
  rw [show nI 0 = (0 : Int32) from rfl] at h
  rw [h, b_0, Bool.false_or]
  exact decide_eq_decide.mpr ⟨fun q => q.2, fun q => ⟨by omega, q⟩⟩
/-- the lines of one column -/
theorem ic_eq {q : Nat → Nat → Int32} {n : Int32} {o : Nat → Int32} {a a' : Nat → Nat → Int32} (R : rS q n o a) (h0 : 0 ≤ (o 13).toInt ∧ (o 13).toInt ≤ 8) (hC : ∀ l : Nat, (l : Int) < (o 13).toInt → 0 ≤ (a 1 l).toInt ∧ (a 1 l).toInt < 4) (h1 : a' 1 = a 1) {c : Int32} (hc : 0 ≤ c.toInt ∧ c.toInt < 4) : F_X5_linesOfColumns q n ((1 : Int32) <<< (c &&& 31)) = F_X7_inColumn o a' c := by
  have hN : (o 13).toInt = ((o 13).toInt.toNat : Int) := by omega
  apply b_ext
  intro i hi
  rw [lc_b R hC _ hN hi, ic_b hN (by omega) hi, h1]
  by_cases e : i < (o 13).toInt.toNat
  · have hci := hC i (by omega)
    have hcn : (a 1 i).toNatClampNeg = (a 1 i).toInt.toNat := rfl
    have hcn2 : c.toNatClampNeg = c.toInt.toNat := rfl
    rw [decide_eq_true e, Bool.true_and]
    have ec := x_nI hc.1
    generalize hj : c.toNatClampNeg = j at *
    rw [ec, b_tw (by omega) (by omega)]
    refine decide_eq_decide.mpr ⟨fun q => ⟨e, ?_⟩, fun q => ?_⟩
    · rw [x_nI hci.1, q]
    · rw [q.2, nI_clamp (by omega)]
  · rw [decide_eq_false e, Bool.false_and, decide_eq_false (fun q => e q.1)]
theorem ic_8 {o : Nat → Int32} {a : Nat → Nat → Int32} {c : Int32} (h0 : 0 ≤ (o 13).toInt ∧ (o 13).toInt ≤ 8) : ∀ i : Nat, 8 ≤ i → i < 32 → bt (F_X7_inColumn o a c) i = false := fun i h1 h2 => by
  rw [ic_b (N := (o 13).toInt.toNat) (by omega) (by omega) h2, decide_eq_false (by omega)]
theorem co_L {nC : Int32} {wW : Nat → Nat} {L : Nat → Nat → Int32} {o : Nat → Int32} {a : Nat → Nat → Int32} {N : Nat} (hC : nC.toInt = (N : Int)) (hC2 : (o 14).toInt = (N : Int)) (h4 : N ≤ 4) (hL : ∀ j, j < N → L j 7 = a 12 j ∧ (a 12 j = 0 ∨ a 12 j = 1)) : ∀ (m k : Nat), k + m = N → ∀ (f1 f2 : Nat) (v : Int32), m < f1 → m < f2 → F_X3_cutOffLookers_L4 nC wW L f1 v (nI k) = F_X7_cutMany_L4 o a f2 v (nI k) := by
  intro m
  induction m with
  | zero =>
    intro k hk f1 f2 v hf1 hf2
    match f1, f2, hf1, hf2 with
    | f1 + 1, f2 + 1, _, _ =>
      rw [F_X3_cutOffLookers_L4, if_pos (by rw [Int32.le_iff_toInt_le, nI_toInt (by omega)]; omega), F_X7_cutMany_L4, if_pos (by rw [Int32.le_iff_toInt_le, nI_toInt (by omega)]; omega)]
  | succ m ih =>
    intro k hk f1 f2 v hf1 hf2
    match f1, f2, hf1, hf2 with
    | f1 + 1, f2 + 1, hf1, hf2 =>
      obtain ⟨e7, e01⟩ := hL k (by omega)
      have e1 : F_X3_cutOffLookers_L4 nC wW L (f1 + 1) v (nI k) = if L k 7 = 0 then F_X3_cutOffLookers_L4 nC wW L f1 v (nI (k + 1)) else F_X3_cutOffLookers_L4 nC wW L f1 (v + 1) (nI (k + 1)) := by
        rw [F_X3_cutOffLookers_L4, if_neg (show ¬ nC ≤ nI k by rw [Int32.le_iff_toInt_le, nI_toInt (by omega)]; omega), if_pos (wk_t hC h4 (by omega))]
        dsimp only
        rw [nI_clamp (by omega), nI_1]
      have e2 : F_X7_cutMany_L4 o a (f2 + 1) v (nI k) = F_X7_cutMany_L4 o a f2 (v + a 12 k) (nI (k + 1)) := by
        rw [F_X7_cutMany_L4, if_neg (show ¬ o 14 ≤ nI k by rw [Int32.le_iff_toInt_le, nI_toInt (by omega)]; omega)]
        dsimp only
        rw [nI_clamp (by omega), nI_1]
      rw [e1, e2, e7]
      rcases e01 with e | e
      · rw [if_pos e, e, Int32.add_zero]; exact ih (k + 1) (by omega) f1 f2 v (by omega) (by omega)
      · rw [if_neg (by rw [e]; decide), e]; exact ih (k + 1) (by omega) f1 f2 (v + 1) (by omega) (by omega)
theorem ct_ch {p a b c d e f x4 x5 x6 x7 z : Int32} (h4 : ¬ p = 4) (h5 : ¬ p = 5) (h6 : ¬ p = 6) (h7 : ¬ p = 7) : (if p = 0 then a else if p = 1 then b else if p = 2 then c else if p = 3 then d else if p = 4 then z else if p = 5 then z else if p = 6 then z else if p = 7 then z else if p = 8 then e else if p = 9 then f else z) = (if p = 0 then a else if p = 1 then b else if p = 2 then c else if p = 3 then d else if p = 4 then x4 else if p = 5 then x5 else if p = 6 then x6 else if p = 7 then x7 else if p = 8 then e else if p = 9 then f else z) := by
  simp only [if_neg h4, if_neg h5, if_neg h6, if_neg h7]
theorem kd_L {M : Nat → Int32} {nC : Int32} {q0 : Nat → Nat → Int32} {n : Int32} {fY : Nat → Int32} {o : Nat → Int32} {a : Nat → Nat → Int32} {i : Nat} {p1 r8 r7 r3 r3' : Int32} (h0 : 0 ≤ (o 13).toInt ∧ (o 13).toInt ≤ 8) (hi : i < 8) (hr8 : r8 = a 2 i) (hr7 : ∀ b : Nat → Int32, F_X7_inColumn o (va_up a 2 b) (a 1 i) = r7) : ∀ (m k : Nat), k + m = 6 → ∀ (f1 f2 : Nat) (qa : Nat → Nat → Int32) (b : Nat → Int32) (v : Int32), m < f1 → m < f2 → rS qa n o (va_up a 2 b) → (∀ j, j ≠ i → b j = a 2 j) →
    ∃ w q' b', F_X6_kinds_L70 M nC q0 n fY (nI i) p1 r8 r7 r3 f1 qa v (nI k) = (w, q', fY) ∧ F_X7_kinds_L45 o a (nI i) p1 (a 2 i) r3' f2 b v (nI k) = (w, a 0, b') ∧ rS q' n o (va_up a 2 b') := by
  have hset : ∀ (qa : Nat → Nat → Int32) (b : Nat → Int32) (x : Int32), rS qa n o (va_up a 2 b) → rS (F_X5_setKind qa n (nI i) x) n o (va_up a 2 (upd b i x)) := by
    intro qa b x R
    unfold F_X5_setKind
    dsimp only
    rw [q_put (k := 8) (i := i) hi (by omega)]
    refine ⟨R.1, R.2.1, fun j hj => ?_⟩
    obtain ⟨r0, r1, r2, r3⟩ := R.2.2 j hj
    refine ⟨r0, ?_, r2, r3⟩
    show upd (qa 1) i x j = upd b i x j
    by_cases e : j = i
    · subst e; rw [pk_us, pk_us]
    · rw [pk_un e, pk_un e]; exact r1
  intro m
  induction m with
  | zero =>
    intro k hk f1 f2 qa b v hf1 hf2 R hb
    match f1, f2, hf1, hf2 with
    | f1 + 1, f2 + 1, _, _ =>
      refine ⟨v, F_X5_setKind qa n (nI i) r8, upd b i (a 2 i), ?_, ?_, ?_⟩
      · rw [F_X6_kinds_L70, if_pos (show (6 : Int32) ≤ nI k from nI_le (a := 6) (by omega) (by omega))]
      · rw [F_X7_kinds_L45, if_pos (show (6 : Int32) ≤ nI k from nI_le (a := 6) (by omega) (by omega)), nI_clamp (by omega)]
      · rw [hr8]; exact hset qa b _ R
  | succ m ih =>
    intro k hk f1 f2 qa b v hf1 hf2 R hb
    match f1, f2, hf1, hf2 with
    | f1 + 1, f2 + 1, hf1, hf2 =>
      have hn6 : ¬ (6 : Int32) ≤ nI k := nI_ge (b := 6) (by omega) (by omega)
      have R' := hset qa b (nI k) R
      have hw : F_X5_worthOfBits (F_X5_setKind qa n (nI i) (nI k)) n r7 = F_X7_worthOfAll o (va_up a 2 (upd b i (nI k))) r7 := p_worths R'
      have e1 : F_X6_kinds_L70 M nC q0 n fY (nI i) p1 r8 r7 r3 (f1 + 1) qa v (nI k) = if F_X7_worthOfAll o (va_up a 2 (upd b i (nI k))) r7 = p1 then F_X6_kinds_L70 M nC q0 n fY (nI i) p1 r8 r7 r3 f1 (F_X5_setKind qa n (nI i) (nI k)) (v ||| ((1 : Int32) <<< (nI k &&& 31))) (nI (k + 1)) else F_X6_kinds_L70 M nC q0 n fY (nI i) p1 r8 r7 r3 f1 (F_X5_setKind qa n (nI i) (nI k)) v (nI (k + 1)) := by
        rw [F_X6_kinds_L70, if_neg hn6]
        dsimp only
        rw [hw, nI_1]
      have e2 : F_X7_kinds_L45 o a (nI i) p1 (a 2 i) r3' (f2 + 1) b v (nI k) = if F_X7_worthOfAll o (va_up a 2 (upd b i (nI k))) r7 = p1 then F_X7_kinds_L45 o a (nI i) p1 (a 2 i) r3' f2 (upd b i (nI k)) (v ||| ((1 : Int32) <<< (nI k &&& 31))) (nI (k + 1)) else F_X7_kinds_L45 o a (nI i) p1 (a 2 i) r3' f2 (upd b i (nI k)) v (nI (k + 1)) := by
        have h0 : v ||| 0 = v := by
          apply b_ext
          intro j _
          rw [b_or, b_0, Bool.or_false]
        rw [F_X7_kinds_L45, if_neg hn6]
        dsimp only
        rw [nI_clamp (by omega), hr7, nI_1, h0]
      rw [e1, e2]
      by_cases c : F_X7_worthOfAll o (va_up a 2 (upd b i (nI k))) r7 = p1
      · rw [if_pos c, if_pos c]
        exact ih (k + 1) (by omega) f1 f2 _ _ _ (by omega) (by omega) R' (fun j hj => by rw [pk_un hj]; exact hb j hj)
      · rw [if_neg c, if_neg c]
        exact ih (k + 1) (by omega) f1 f2 _ _ _ (by omega) (by omega) R' (fun j hj => by rw [pk_un hj]; exact hb j hj)

theorem t_page {oM : Nat → Int32} {nC : Int32} {qS : Nat → Nat → Int32} {nS : Int32} {gB : Nat → Int32} {LP : Nat → Nat → Int32} {fN : Nat → Int32} {nN : Int32} {fZ : Nat → Int32} {fY : Nat → Int32} {nE : Int32} {qU : Nat → Nat → Int32} {nU : Int32} {gH : Nat → Int32} {LQ : Nat → Nat → Int32} {oO : Nat → Int32} {aO : Nat → Nat → Int32} {wW : Nat → Nat} (h : INV oM nC qS nS gB LP fN nN fZ fY nE qU nU gH LQ oO aO) {z : Int32 × (Nat → Nat → Int32)} (ez : z = F_X6_page oM nC wW LP) {y : Int32 × (Nat → Int32) × (Nat → Int32) × (Nat → Int32) × (Nat → Int32) × (Nat → Int32)} (ey : y = F_X7_page oO aO) : z.1 = y.1 ∧ INV oM nC qS nS gB z.2 fN nN fZ fY nE qU nU gH LQ oO (va_up (va_up (va_up (va_up (va_up aO 8 y.2.1) 9 y.2.2.1) 10 y.2.2.2.1) 11 y.2.2.2.2.1) 12 y.2.2.2.2.2) := by
  obtain ⟨hS, hD, hY, hN, hR, h36, hK, hz, hzq⟩ := id h
  have hl := hD.2.1
  have hC : nC.toInt = ((oO 14).toInt.toNat : Int) := by rw [hS.2.2.1]; omega
  obtain ⟨w, L', c8, c9, c10, c11, c12, h1, h2, gL, g8, g9, g10, g11, g12⟩ := pg_L (M := oM) (wW := wW) (L0 := LP) (o := oO) (a := aO) hC (by omega) (by omega) (oO 14).toInt.toNat 0 (by omega) (((nC.toInt - (0 : Int32).toInt).toNat) + 1) ((((oO 14).toInt - (0 : Int32).toInt).toNat) + 1) LP (aO 8) (aO 9) (aO 10) (aO 11) (aO 12) 0 (by rw [hC, show (0 : Int32).toInt = 0 from rfl]; omega) (by rw [show (0 : Int32).toInt = 0 from rfl]; omega) (fun j _ hj => ⟨(hS.2.2.2 j (by omega)).2.2.2.2.2.2.1, (hD.2.2.2.2 j (by omega)).2.2.1⟩)
  have e1 : z = (w, L') := by rw [ez]; exact h1
  have e2 : y = (w, c8, c9, c10, c11, c12) := by rw [ey]; exact h2
  clear ez ey
  subst e1 e2
  have f8 : ∀ j : Nat, (j : Int) < (oO 14).toInt → c8 j = 0 ∧ c9 j = 0 ∧ c10 j = 0 ∧ c11 j = 0 ∧ c12 j = 0 ∧ L' j = F_X2_startPage (LP j) := fun j hj => by
    have hp : 0 ≤ j ∧ j < (oO 14).toInt.toNat := ⟨Nat.zero_le _, by omega⟩
    rw [g8 j, g9 j, g10 j, g11 j, g12 j, gL j, if_pos hp, if_pos hp, if_pos hp, if_pos hp, if_pos hp, if_pos hp]
    exact ⟨rfl, rfl, rfl, rfl, rfl, rfl⟩
  refine ⟨rfl, ⟨hS.1, hS.2.1, hS.2.2.1, fun j hj => ?_⟩, ⟨hD.1, hD.2.1, hD.2.2.1, hD.2.2.2.1, fun j hj => ?_⟩, hY, hN, hR, h36, hK, fun j hj => ?_, hzq⟩
  · obtain ⟨x8, x9, x10, x11, x12, xL⟩ := f8 j hj
    obtain ⟨l0, l1, l2, -⟩ := hS.2.2.2 j hj
    show L' j 0 = aO 5 j ∧ L' j 1 = aO 6 j ∧ L' j 2 = aO 7 j ∧ L' j 3 = c8 j ∧ L' j 4 = c9 j ∧ L' j 5 = c10 j ∧ L' j 6 = c11 j ∧ L' j 7 = c12 j
    rw [xL, x8, x9, x10, x11, x12]
    exact ⟨l0, l1, l2, rfl, rfl, rfl, rfl, rfl⟩
  · obtain ⟨x8, x9, x10, x11, x12, xL⟩ := f8 j hj
    have hdk := hD.2.2.2.2 j hj
    show (0 ≤ (aO 5 j).toInt ∧ (aO 5 j).toInt ≤ 2) ∧ (0 ≤ (c10 j).toInt ∧ (c10 j).toInt + unr (c11 j) 8 ≤ 8 + (c12 j).toInt) ∧ (∀ i : Nat, 8 ≤ i → i < 32 → bt (c11 j) i = false) ∧ (c12 j = 0 ∨ c12 j = 1) ∧ (1 ≤ (aO 6 j).toInt ∧ (aO 6 j).toInt ≤ 4) ∧ (0 ≤ (c8 j).toInt ∧ (c8 j).toInt ≤ 1200 ∧ (c12 j = 0 → (c8 j).toInt ≤ 999))
    rw [x8, x10, x11, x12]
    have hu := unr_le 0 8 (by omega)
    exact ⟨hdk.1, ⟨by decide, by rw [show (0 : Int32).toInt = 0 from rfl]; omega⟩, fun i _ _ => b_0 i, Or.inl rfl, hdk.2.2.2.2.1, by decide, by decide, fun _ => by decide⟩
  · show L' j 7 = 0 ∨ L' j 7 = 1
    rw [gL j]
    split
    · exact Or.inl rfl
    · exact hz j hj

theorem t_count {oM : Nat → Int32} {nC : Int32} {qS : Nat → Nat → Int32} {nS : Int32} {gB : Nat → Int32} {LP : Nat → Nat → Int32} {fN : Nat → Int32} {nN : Int32} {fZ : Nat → Int32} {fY : Nat → Int32} {nE : Int32} {qU : Nat → Nat → Int32} {nU : Int32} {gH : Nat → Int32} {LQ : Nat → Nat → Int32} {oO : Nat → Int32} {aO : Nat → Nat → Int32} {wW : Nat → Nat} {p0 : Int32} (h : INV oM nC qS nS gB LP fN nN fZ fY nE qU nU gH LQ oO aO) {z : Int32} (ez : z = F_X6_count oM nC wW qS nS fN nN fY LP p0) {y : Int32} (ey : y = F_X7_count oO aO p0) : z = y ∧ INV oM nC qS nS gB LP fN nN fZ fY nE qU nU gH LQ oO aO := by
  refine ⟨?_, h⟩
  obtain ⟨hS, hD, hY, hN, hR, h36, hK, hz, hzq⟩ := h
  have R := hS.1
  have h8 := hD.1
  have hl := hD.2.1
  have hco : F_X3_cutOffLookers nC wW LP = F_X7_cutMany oO aO := by
    unfold F_X3_cutOffLookers F_X7_cutMany
    have hC : nC.toInt = ((oO 14).toInt.toNat : Int) := by rw [hS.2.2.1]; omega
    exact co_L hC (by omega) (by omega) (fun j hj => ⟨(hS.2.2.2 j (by omega)).2.2.2.2.2.2.2, (hD.2.2.2.2 j (by omega)).2.2.2.1⟩) (oO 14).toInt.toNat 0 (by omega) _ _ 0 (by rw [hC, show (0 : Int32).toInt = 0 from rfl]; omega) (by rw [show (0 : Int32).toInt = 0 from rfl]; omega)
  have l4 : (4 : Int32).toInt = 4 := rfl
  have l8 : (8 : Int32).toInt = 8 := rfl
  have l10 : (10 : Int32).toInt = 10 := rfl
  have l11 : (11 : Int32).toInt = 11 := rfl
  have l16 : (16 : Int32).toInt = 16 := rfl
  rw [ez, ey]
  clear ez ey
  by_cases cA : 11 ≤ p0.toInt ∧ p0.toInt ≤ 16
  · have e1 : F_X7_isIn p0 11 16 = 1 := by
      unfold F_X7_isIn
      rw [if_neg (by rw [Int32.lt_iff_toInt_lt]; omega), if_neg (by rw [Int32.lt_iff_toInt_lt]; omega)]
    obtain ⟨i, hi, en⟩ : ∃ i : Nat, i < 7 ∧ p0 - 10 = nI i := by
      have ex : (p0 - 10).toInt = p0.toInt - 10 := i_sub rfl (by omega) (by omega)
      refine ⟨(p0.toInt - 10).toNat, by omega, ?_⟩
      rw [← ex]
      exact x_nIt (by omega)
    unfold F_X6_count F_X7_count
    dsimp only
    rw [e1, if_neg (show ¬ (1 : Int32) = 0 by decide), if_neg (show ¬ p0 < 4 by rw [Int32.lt_iff_toInt_lt]; omega), if_pos (show 8 ≤ p0 by rw [Int32.le_iff_toInt_le]; omega), if_neg (show ¬ p0 ≤ 10 by rw [Int32.le_iff_toInt_le]; omega), if_neg (show ¬ 16 < p0 by rw [Int32.lt_iff_toInt_lt]; omega)]
    rw [en, q_at (by omega) (by omega), nI_clamp (by omega)]
    exact hY i hi
  · have e1 : F_X7_isIn p0 11 16 = 0 := by
      unfold F_X7_isIn
      by_cases c : p0 < 11
      · rw [if_pos c]
      · rw [if_neg c, if_pos (show 16 < p0 by rw [Int32.lt_iff_toInt_lt] at c ⊢; omega)]
    by_cases cB : 4 ≤ p0.toInt ∧ p0.toInt ≤ 7
    · have ex : (p0 - 4).toInt = p0.toInt - 4 := i_sub rfl (by omega) (by omega)
      have hL : F_X5_linesOfColumns qS nS ((1 : Int32) <<< ((p0 - 4) &&& 31)) = F_X7_inColumn oO aO (p0 - 4) := ic_eq R h8 (fun l hl => (hD.2.2.1 l hl).1) rfl (by omega)
      have hB : F_J6_bitCount_0f7a4 (F_X7_inColumn oO aO (p0 - 4)) = F_X7_bits (F_X7_inColumn oO aO (p0 - 4)) := bc_of (ic_8 h8)
      unfold F_X6_count F_X7_count
      dsimp only
      rw [e1, if_pos (show (0 : Int32) = 0 from rfl), if_neg (show ¬ p0 < 4 by rw [Int32.lt_iff_toInt_lt]; omega), if_neg (show ¬ 8 ≤ p0 by rw [Int32.le_iff_toInt_le]; omega), hL, hB]
      generalize F_X7_bits (F_X7_inColumn oO aO (p0 - 4)) = v
      have h0 : ¬ p0 = 0 := fun e => by rw [e] at cB; exact absurd cB.1 (by decide)
      have h1 : ¬ p0 = 1 := fun e => by rw [e] at cB; exact absurd cB.1 (by decide)
      have h2 : ¬ p0 = 2 := fun e => by rw [e] at cB; exact absurd cB.1 (by decide)
      have h3 : ¬ p0 = 3 := fun e => by rw [e] at cB; exact absurd cB.1 (by decide)
      rw [if_neg h0, if_neg h1, if_neg h2, if_neg h3]
      by_cases h4 : p0 = 4
      · rw [if_pos h4]
      · rw [if_neg h4]
        by_cases h5 : p0 = 5
        · rw [if_pos h5]
        · rw [if_neg h5]
          by_cases h6 : p0 = 6
          · rw [if_pos h6]
          · rw [if_neg h6]
            by_cases h7 : p0 = 7
            · rw [if_pos h7]
            · exfalso
              have g4 : ¬ p0.toInt = 4 := fun e => h4 (Int32.toInt_inj.1 e)
              have g5 : ¬ p0.toInt = 5 := fun e => h5 (Int32.toInt_inj.1 e)
              have g6 : ¬ p0.toInt = 6 := fun e => h6 (Int32.toInt_inj.1 e)
              have g7 : ¬ p0.toInt = 7 := fun e => h7 (Int32.toInt_inj.1 e)
              omega
    · have g4 : ¬ p0 = 4 := fun e => by rw [e] at cB; exact cB (by decide)
      have g5 : ¬ p0 = 5 := fun e => by rw [e] at cB; exact cB (by decide)
      have g6 : ¬ p0 = 6 := fun e => by rw [e] at cB; exact cB (by decide)
      have g7 : ¬ p0 = 7 := fun e => by rw [e] at cB; exact cB (by decide)
      have hw : F_X5_worthOfBits qS nS (-1) = F_X7_worthOfAll oO aO (-1) := p_worths R
      unfold F_X6_count F_X7_count
      dsimp only
      rw [e1, if_pos (show (0 : Int32) = 0 from rfl), hw, hco, R.1, hN.1, hS.2.2.1, hR.1]
      by_cases c4 : p0 < 4
      · rw [if_pos c4, if_pos (show p0 ≤ 10 by rw [Int32.lt_iff_toInt_lt] at c4; rw [Int32.le_iff_toInt_le]; omega)]
        exact ct_ch g4 g5 g6 g7
      · rw [if_neg c4, if_pos (show 8 ≤ p0 by rw [Int32.lt_iff_toInt_lt] at c4; rw [Int32.le_iff_toInt_le]; omega)]
        by_cases c10 : p0 ≤ 10
        · rw [if_pos c10]
          exact ct_ch g4 g5 g6 g7
        · rw [if_neg c10, if_pos (show 16 < p0 by rw [Int32.le_iff_toInt_le] at c10; rw [Int32.lt_iff_toInt_lt]; omega)]
          exact ct_ch g4 g5 g6 g7

theorem t_kinds {oM : Nat → Int32} {nC : Int32} {qS : Nat → Nat → Int32} {nS : Int32} {gB : Nat → Int32} {LP : Nat → Nat → Int32} {fN : Nat → Int32} {nN : Int32} {fZ : Nat → Int32} {fY : Nat → Int32} {nE : Int32} {qU : Nat → Nat → Int32} {nU : Int32} {gH : Nat → Int32} {LQ : Nat → Nat → Int32} {oO : Nat → Int32} {aO : Nat → Nat → Int32} {p0 : Int32} {p1 : Int32} (h : INV oM nC qS nS gB LP fN nN fZ fY nE qU nU gH LQ oO aO) {z : Int32 × (Nat → Nat → Int32) × (Nat → Int32)} (ez : z = F_X6_kinds oM nC qS nS fY p0 p1) {y : Int32 × (Nat → Int32) × (Nat → Int32)} (ey : y = F_X7_kinds oO aO p0 p1) : z.1 = y.1 ∧ INV oM nC z.2.1 nS gB LP fN nN fZ z.2.2 nE qU nU gH LQ oO (va_up (va_up aO 0 y.2.1) 2 y.2.2) := by
  obtain ⟨hS, hD, hY, hN, hR, h36, hK, hz, hzq⟩ := id h
  have R := hS.1
  have h8 := hD.1
  have hL : F_X5_has qS nS p0 = F_X7_isLine oO aO p0 := by unfold F_X5_has F_X7_isLine; rw [R.1]
  by_cases c : F_X7_isLine oO aO p0 = 0
  · have u := ref_no (M := oM) (o := oO) (w := -1) hY (by decide) (by decide)
    have e1 : z = ((F_X6_refuse oM fY (-1)).1, qS, (F_X6_refuse oM fY (-1)).2) := by
      rw [ez]; unfold F_X6_kinds; dsimp only; rw [hL, if_pos c]
    have e2 : y = ((F_X7_no oO aO (-1)).1, (F_X7_no oO aO (-1)).2, aO 2) := by
      rw [ey]; unfold F_X7_kinds; dsimp only; rw [if_pos c]
    clear ez ey
    subst e1 e2
    exact ⟨u.1, h.cg u.2 rfl rfl rfl rfl rfl rfl rfl rfl rfl rfl rfl rfl rfl rfl rfl rfl rfl rfl rfl rfl rfl rfl rfl rfl rfl rfl⟩
  · have hp := sem_X7_isLine_n rfl c
    have hp8 : p0.toInt < 8 := by omega
    by_cases cb : F_X6_outside p1 0 999 = 0
    · obtain ⟨i, hi, en⟩ : ∃ i : Nat, i < 8 ∧ p0 = nI i := ⟨p0.toInt.toNat, by omega, x_nIt hp.1⟩
      have hC := hD.2.2.1
      have hcl : p0.toNatClampNeg = i := by rw [en, nI_clamp (by omega)]
      have hic : (i : Int) < (oO 13).toInt := by
        have e3 : p0.toInt = i := by rw [en, nI_toInt (by omega)]
        omega
      have hci := (hC i hic).1
      obtain ⟨w, q', b', h1, h2, hR'⟩ := kd_L (M := oM) (nC := nC) (q0 := qS) (n := nS) (fY := fY) (o := oO) (a := aO) (i := i) (p1 := p1) (r8 := aO 2 i) (r7 := F_X5_linesOfColumns qS nS ((1 : Int32) <<< ((aO 1 i) &&& 31))) (r3 := F_X6_outside p1 0 999) (r3' := F_X7_bound p1 0 999) h8 hi rfl (fun b => (ic_eq (a' := va_up aO 2 b) R h8 (fun l hl => (hC l hl).1) rfl hci).symm) 6 0 rfl ((((6 : Int32).toInt - (0 : Int32).toInt).toNat) + 1) ((((6 : Int32).toInt - (0 : Int32).toInt).toNat) + 1) qS (aO 2) 0 (by decide) (by decide) ⟨R.1, R.2.1, fun j hj => R.2.2 j hj⟩ (fun j _ => rfl)
      have e1 : z = (w, q', fY) := by
        rw [ez]; unfold F_X6_kinds; dsimp only
        rw [hL, if_neg c, if_pos cb, p_column R hp.1 hp8, p_kind R hp.1 hp8, hcl, en]
        exact h1
      have e2 : y = (w, aO 0, b') := by
        rw [ey]; unfold F_X7_kinds; dsimp only
        rw [if_neg c, if_pos (show F_X7_bound p1 0 999 = 0 from cb), hcl, en]
        exact h2
      clear ez ey h1 h2
      subst e1 e2
      exact ⟨rfl, ⟨⟨hR'.1, hR'.2.1, fun j hj => hR'.2.2 j hj⟩, hS.2.1, hS.2.2.1, hS.2.2.2⟩, hD, hY, hN, hR, h36, hK, hz, hzq⟩
    · have u := ref_no (M := oM) (o := oO) (w := F_X6_outside p1 0 999) hY bd_rng.1 bd_rng.2
      have e1 : z = ((F_X6_refuse oM fY (F_X6_outside p1 0 999)).1, qS, (F_X6_refuse oM fY (F_X6_outside p1 0 999)).2) := by
        rw [ez]; unfold F_X6_kinds; dsimp only; rw [hL, if_neg c, if_neg cb]
      have e2 : y = ((F_X7_no oO aO (F_X6_outside p1 0 999)).1, (F_X7_no oO aO (F_X6_outside p1 0 999)).2, aO 2) := by
        rw [ey]; unfold F_X7_kinds; dsimp only; rw [if_neg c, if_neg (show ¬ F_X7_bound p1 0 999 = 0 from cb)]; rfl
      clear ez ey
      subst e1 e2
      exact ⟨u.1, h.cg u.2 rfl rfl rfl rfl rfl rfl rfl rfl rfl rfl rfl rfl rfl rfl rfl rfl rfl rfl rfl rfl rfl rfl rfl rfl rfl rfl⟩
