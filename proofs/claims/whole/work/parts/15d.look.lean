/-! calls on a looker -/
theorem dM_of {a : Nat → Nat → Int32} {k : Nat} (h : dK a k) : dM (a 8 k, a 9 k, a 10 k, a 11 k, a 12 k) := ⟨h.2.1, h.2.2.1, h.2.2.2.1, h.2.2.2.2.2⟩
theorem mi_eq {o : Nat → Int32} {a : Nat → Nat → Int32} {k : Nat} (hk : k < 4) : F_X7_minds o a (nI k) = (nI k, a 8 k, a 9 k, a 10 k, a 11 k, a 12 k) := by
  unfold F_X7_minds
  dsimp only
  rw [nI_clamp (by omega)]
/-- the reference with a looker in mind -/
def mS (o : Nat → Int32) (k : Nat) (v : Int32 × Int32 × Int32 × Int32 × Int32) : Nat → Int32 := upd (upd (upd (upd (upd (upd o 30 (nI k)) 31 v.1) 32 v.2.1) 33 v.2.2.1) 34 v.2.2.2.1) 35 v.2.2.2.2
section IX
variable {M : Nat → Int32} {nC : Int32} {q : Nat → Nat → Int32} {n : Int32} {g : Nat → Int32} {L : Nat → Nat → Int32} {fN : Nat → Int32} {nN : Int32} {fZ fY : Nat → Int32} {nE : Int32} {qU : Nat → Nat → Int32} {nU : Int32} {gH : Nat → Int32} {LQ : Nat → Nat → Int32} {o : Nat → Int32} {a : Nat → Nat → Int32}
theorem INV.cx (h : INV M nC q n g L fN nN fZ fY nE qU nU gH LQ o a) {k : Nat} (hk : (k : Int) < (o 14).toInt) (v : Int32 × Int32 × Int32 × Int32 × Int32) : CX q n g (mS o k v) a k := ⟨⟨h.1.1, h.1.2.1.1, h.2.1, hk, rfl, h.2.2.2.2.2.1.2⟩, h.1.2.1.2, h.2.2.2.2.2.1.1⟩
theorem INV.rv (h : INV M nC q n g L fN nN fZ fY nE qU nU gH LQ o a) {k : Nat} (hk : (k : Int) < (o 14).toInt) : rV (L k) a k (a 8 k, a 9 k, a 10 k, a 11 k, a 12 k) := h.1.2.2.2 k hk
theorem INV.dm (h : INV M nC q n g L fN nN fZ fY nE qU nU gH LQ o a) {k : Nat} (hk : (k : Int) < (o 14).toInt) : dM (a 8 k, a 9 k, a 10 k, a 11 k, a 12 k) := dM_of (h.2.1.2.2.2.2 k hk)
/-- a looker's five numbers put anew -/
theorem INV.put (h : INV M nC q n g L fN nN fZ fY nE qU nU gH LQ o a) {k : Nat} (hk4 : k < 4) (hk : (k : Int) < (o 14).toInt) {f : Nat → Int32} {v : Int32 × Int32 × Int32 × Int32 × Int32} (V : rV f a k v) (D : dM v) {fY' : Nat → Int32} {Y' : Nat → Int32} (hY : rY fY' Y') {o' : Nat → Int32} (e13 : o' 13 = o 13) (e14 : o' 14 = o 14) (e15 : o' 15 = o 15) (e16 : o' 16 = o 16) (e17 : o' 17 = o 17) (e18 : o' 18 = o 18) (e23 : o' 23 = o 23) (e27 : o' 27 = o 27) (e36 : o' 36 = o 36) (e37 : o' 37 = o 37) (e45 : o' 45 = o 45) : INV M nC q n g (va_up L k f) fN nN fZ fY' nE qU nU gH LQ o' (va_up (va_up (va_up (va_up (va_up (va_up a 0 Y') 8 (upd (a 8) k v.1)) 9 (upd (a 9) k v.2.1)) 10 (upd (a 10) k v.2.2.1)) 11 (upd (a 11) k v.2.2.2.1)) 12 (upd (a 12) k v.2.2.2.2)) := by
  have h2 : INV M nC q n g (va_up L k f) fN nN fZ fY' nE qU nU gH LQ o (va_up (va_up (va_up (va_up (va_up (va_up a 0 Y') 8 (upd (a 8) k v.1)) 9 (upd (a 9) k v.2.1)) 10 (upd (a 10) k v.2.2.1)) 11 (upd (a 11) k v.2.2.2.1)) 12 (upd (a 12) k v.2.2.2.2)) := by
    obtain ⟨hS, hD, hY0, hN, hR, h36, hK, hz, hzq⟩ := h
    have hdk := hD.2.2.2.2 k hk
    obtain ⟨v0, v1, v2, v3, v4, v5, v6, v7⟩ := V
    obtain ⟨d1, d2, d3, d4⟩ := D
    have ho : ∀ j i : Nat, j ≠ k → 5 ≤ i → i ≤ 12 → (va_up (va_up (va_up (va_up (va_up (va_up a 0 Y') 8 (upd (a 8) k v.1)) 9 (upd (a 9) k v.2.1)) 10 (upd (a 10) k v.2.2.1)) 11 (upd (a 11) k v.2.2.2.1)) 12 (upd (a 12) k v.2.2.2.2)) i j = a i j := fun j i hj h5 h12 => by
      match i, h5, h12 with
      | 5, _, _ => rfl
      | 6, _, _ => rfl
      | 7, _, _ => rfl
      | 8, _, _ => exact pk_un hj
      | 9, _, _ => exact pk_un hj
      | 10, _, _ => exact pk_un hj
      | 11, _, _ => exact pk_un hj
      | 12, _, _ => exact pk_un hj
    refine ⟨hS.set hS.1 ⟨v0, v1, v2, ?_, ?_, ?_, ?_, ?_⟩ ho, hD.set rfl rfl rfl ⟨hdk.1, ?_, ?_, ?_, hdk.2.2.2.2.1, ?_⟩ ho, hY, hN, hR, h36, hK, hz_set hz (by rw [v7]; exact d3), hzq⟩
    · show f 3 = upd (a 8) k v.1 k; rw [pk_us]; exact v3
    · show f 4 = upd (a 9) k v.2.1 k; rw [pk_us]; exact v4
    · show f 5 = upd (a 10) k v.2.2.1 k; rw [pk_us]; exact v5
    · show f 6 = upd (a 11) k v.2.2.2.1 k; rw [pk_us]; exact v6
    · show f 7 = upd (a 12) k v.2.2.2.2 k; rw [pk_us]; exact v7
    · show 0 ≤ (upd (a 10) k v.2.2.1 k).toInt ∧ (upd (a 10) k v.2.2.1 k).toInt + unr (upd (a 11) k v.2.2.2.1 k) 8 ≤ 8 + (upd (a 12) k v.2.2.2.2 k).toInt
      rw [pk_us, pk_us, pk_us]; exact d1
    · show ∀ i : Nat, 8 ≤ i → i < 32 → bt (upd (a 11) k v.2.2.2.1 k) i = false
      rw [pk_us]; exact d2
    · show upd (a 12) k v.2.2.2.2 k = 0 ∨ upd (a 12) k v.2.2.2.2 k = 1
      rw [pk_us]; exact d3
    · show 0 ≤ (upd (a 8) k v.1 k).toInt ∧ (upd (a 8) k v.1 k).toInt ≤ 1200 ∧ (upd (a 12) k v.2.2.2.2 k = 0 → (upd (a 8) k v.1 k).toInt ≤ 999)
      rw [pk_us, pk_us]; exact d4
  exact h2.cg hY e13 e14 e15 e16 e17 e18 e23 e27 e36 e37 e45 rfl rfl rfl rfl rfl rfl rfl rfl rfl rfl rfl rfl rfl rfl rfl
end IX
theorem ci_in {p : Int32} : (F_X7_isIn p 0 3 = 0 ∧ (p < 0 ∨ ¬ p < 4)) ∨ (¬ F_X7_isIn p 0 3 = 0 ∧ ¬ p < 0 ∧ p < 4 ∧ 0 ≤ p.toInt ∧ p.toInt < 4) := by
  unfold F_X7_isIn
  by_cases c1 : p < 0
  · left; rw [if_pos c1]; exact ⟨rfl, Or.inl c1⟩
  · rw [if_neg c1]
    have h0 := i_nlt c1
    rw [show (0 : Int32).toInt = 0 from rfl] at h0
    by_cases c2 : (3 : Int32) < p
    · left
      rw [if_pos c2]
      have h3 := i_lt c2
      rw [show (3 : Int32).toInt = 3 from rfl] at h3
      exact ⟨rfl, Or.inr (by rw [Int32.lt_iff_toInt_lt, show (4 : Int32).toInt = 4 from rfl]; omega)⟩
    · right
      rw [if_neg c2]
      have h3 := i_nlt c2
      rw [show (3 : Int32).toInt = 3 from rfl] at h3
      exact ⟨by decide, c1, by rw [Int32.lt_iff_toInt_lt, show (4 : Int32).toInt = 4 from rfl]; omega, h0, by omega⟩

theorem t_read {oM : Nat → Int32} {nC : Int32} {qS : Nat → Nat → Int32} {nS : Int32} {gB : Nat → Int32} {LP : Nat → Nat → Int32} {fN : Nat → Int32} {nN : Int32} {fZ : Nat → Int32} {fY : Nat → Int32} {nE : Int32} {qU : Nat → Nat → Int32} {nU : Int32} {gH : Nat → Int32} {LQ : Nat → Nat → Int32} {oO : Nat → Int32} {aO : Nat → Nat → Int32} {wW : Nat → Nat} {p0 : Int32} {p1 : Int32} (h : INV oM nC qS nS gB LP fN nN fZ fY nE qU nU gH LQ oO aO) {z : Int32 × (Nat → Int32) × (Nat → Nat → Int32)} (ez : z = F_X6_read oM nC wW qS nS gB fY LP p0 p1) {y : Int32 × Int32 × Int32 × Int32 × Int32 × Int32 × Int32 × (Nat → Int32) × (Nat → Int32) × (Nat → Int32) × (Nat → Int32) × (Nat → Int32) × (Nat → Int32)} (ey : y = F_X7_read oO aO p0 p1) : z.1 = y.1 ∧ INV oM nC qS nS gB z.2.2 fN nN fZ z.2.1 nE qU nU gH LQ (upd (upd (upd (upd (upd (upd oO 30 y.2.1) 31 y.2.2.1) 32 y.2.2.2.1) 33 y.2.2.2.2.1) 34 y.2.2.2.2.2.1) 35 y.2.2.2.2.2.2.1) (va_up (va_up (va_up (va_up (va_up (va_up aO 0 y.2.2.2.2.2.2.2.1) 8 y.2.2.2.2.2.2.2.2.1) 9 y.2.2.2.2.2.2.2.2.2.1) 10 y.2.2.2.2.2.2.2.2.2.2.1) 11 y.2.2.2.2.2.2.2.2.2.2.2.1) 12 y.2.2.2.2.2.2.2.2.2.2.2.2) := by
  rcases wk_lk (p := p0) (a := aO) h.1.2.2.1 h.2.1.2.1 with ⟨w1, w2, k, hk, hk4, hk1, hkc⟩ | ⟨w1, w2⟩
  · rcases ci_in (p := p1) with ⟨c1, c2⟩ | ⟨c1, c2, c3, c4⟩
    · have e1 : z = ((F_X6_refuse oM fY (-1)).1, (F_X6_refuse oM fY (-1)).2, LP) := by
        rw [ez]; unfold F_X6_read; dsimp only; rw [if_pos w1]
        by_cases d : p1 < 0
        · rw [if_pos d]
        · rw [if_neg d, if_neg (c2.resolve_left d)]
      have e2 : y = ((F_X7_no oO aO (-1)).1, oO 30, oO 31, oO 32, oO 33, oO 34, oO 35, (F_X7_no oO aO (-1)).2, aO 8, aO 9, aO 10, aO 11, aO 12) := by rw [ey]; unfold F_X7_read; dsimp only; rw [if_neg w2, if_pos c1]
      have u := ref_no (M := oM) (o := oO) (a := aO) (w := -1) h.2.2.1 (by decide) (by decide)
      clear ez ey
      subst e1 e2
      exact ⟨u.1, h.cg u.2 rfl rfl rfl rfl rfl rfl rfl rfl rfl rfl rfl rfl rfl rfl rfl rfl rfl rfl rfl rfl rfl rfl rfl rfl rfl rfl⟩
    · have hm := mi_eq (o := oO) (a := aO) hk4
      rw [← hk] at hm
      have X := h.cx hk1 (aO 8 k, aO 9 k, aO 10 k, aO 11 k, aO 12 k)
      have hS : ∀ o7 : Int32 × Int32 × Int32 × Int32 × Int32 × Int32, o7 = (p0, aO 8 k, aO 9 k, aO 10 k, aO 11 k, aO 12 k) → (upd (upd (upd (upd (upd (upd oO 30 o7.1) 31 o7.2.1) 32 o7.2.2.1) 33 o7.2.2.2.1) 34 o7.2.2.2.2.1) 35 o7.2.2.2.2.2) = mS oO k (aO 8 k, aO 9 k, aO 10 k, aO 11 k, aO 12 k) := fun o7 e => by rw [e, hk]; rfl
      have hS' := hS _ hm
      rcases ro_ok X (h.rv hk1) (h.dm hk1) c4 with ⟨r1, r2⟩ | ⟨j, hj, r2, r1, rV', rD⟩
      · have e1 : z = ((F_X6_refuse oM fY (-3)).1, (F_X6_refuse oM fY (-3)).2, va_up LP k (LP k)) := by
          rw [ez]; unfold F_X6_read; dsimp only; rw [if_pos w1, if_neg c2, if_pos c3, hkc, r1, if_pos rfl]
        have e2 : y = ((F_X7_no (mS oO k (aO 8 k, aO 9 k, aO 10 k, aO 11 k, aO 12 k)) aO (-3)).1, p0, aO 8 k, aO 9 k, aO 10 k, aO 11 k, aO 12 k, (F_X7_no (mS oO k (aO 8 k, aO 9 k, aO 10 k, aO 11 k, aO 12 k)) aO (-3)).2, aO 8, aO 9, aO 10, aO 11, aO 12) := by
          rw [ey]; unfold F_X7_read; dsimp only; rw [if_neg w2, if_neg c1, hS', r2, if_neg (show ¬ (0 : Int32) ≤ -9 by decide), hm]
        have u := ref_no (M := oM) (o := mS oO k (aO 8 k, aO 9 k, aO 10 k, aO 11 k, aO 12 k)) (a := aO) (w := -3) h.2.2.1 (by decide) (by decide)
        have hL : va_up LP k (LP k) = LP := by
          funext i
          unfold va_up
          by_cases e : i = k
          · rw [if_pos e, e]
          · rw [if_neg e]
        rw [hL] at e1
        clear ez ey
        subst e1 e2
        exact ⟨u.1, h.cg u.2 rfl rfl rfl rfl rfl rfl rfl rfl rfl rfl rfl rfl rfl rfl rfl rfl rfl rfl rfl rfl rfl rfl rfl rfl rfl rfl⟩
      · have hw : F_X7_isMinded (upd (upd (upd (upd (upd (upd oO 30 p0) 31 (F_X7_reads (mS oO k (aO 8 k, aO 9 k, aO 10 k, aO 11 k, aO 12 k)) aO (nI j)).1) 32 (F_X7_reads (mS oO k (aO 8 k, aO 9 k, aO 10 k, aO 11 k, aO 12 k)) aO (nI j)).2.1) 33 (F_X7_reads (mS oO k (aO 8 k, aO 9 k, aO 10 k, aO 11 k, aO 12 k)) aO (nI j)).2.2.1) 34 (F_X7_reads (mS oO k (aO 8 k, aO 9 k, aO 10 k, aO 11 k, aO 12 k)) aO (nI j)).2.2.2.1) 35 (F_X7_reads (mS oO k (aO 8 k, aO 9 k, aO 10 k, aO 11 k, aO 12 k)) aO (nI j)).2.2.2.2) aO = (upd (aO 8) k (F_X7_reads (mS oO k (aO 8 k, aO 9 k, aO 10 k, aO 11 k, aO 12 k)) aO (nI j)).1, upd (aO 9) k (F_X7_reads (mS oO k (aO 8 k, aO 9 k, aO 10 k, aO 11 k, aO 12 k)) aO (nI j)).2.1, upd (aO 10) k (F_X7_reads (mS oO k (aO 8 k, aO 9 k, aO 10 k, aO 11 k, aO 12 k)) aO (nI j)).2.2.1, upd (aO 11) k (F_X7_reads (mS oO k (aO 8 k, aO 9 k, aO 10 k, aO 11 k, aO 12 k)) aO (nI j)).2.2.2.1, upd (aO 12) k (F_X7_reads (mS oO k (aO 8 k, aO 9 k, aO 10 k, aO 11 k, aO 12 k)) aO (nI j)).2.2.2.2) := by
          generalize F_X7_reads (mS oO k (aO 8 k, aO 9 k, aO 10 k, aO 11 k, aO 12 k)) aO (nI j) = v
          rw [← hkc]
          rfl
        have e1 : z = (if (F_X7_reads (mS oO k (aO 8 k, aO 9 k, aO 10 k, aO 11 k, aO 12 k)) aO (nI j)).2.2.2.2 = 1 then -9 else nI j, fY, va_up LP k (F_X2_readOn (LP k) qS nS gB p1).2) := by
          rw [ez]; unfold F_X6_read; dsimp only; rw [if_pos w1, if_neg c2, if_pos c3, hkc, r1, if_neg]
          split
          · decide
          · intro e
            have := congrArg Int32.toInt e
            rw [nI_toInt (by omega), show (-3 : Int32).toInt = -3 from rfl] at this
            omega
        have e2 : y = (if (F_X7_reads (mS oO k (aO 8 k, aO 9 k, aO 10 k, aO 11 k, aO 12 k)) aO (nI j)).2.2.2.2 = 1 then -9 else nI j, p0, (F_X7_reads (mS oO k (aO 8 k, aO 9 k, aO 10 k, aO 11 k, aO 12 k)) aO (nI j)).1, (F_X7_reads (mS oO k (aO 8 k, aO 9 k, aO 10 k, aO 11 k, aO 12 k)) aO (nI j)).2.1, (F_X7_reads (mS oO k (aO 8 k, aO 9 k, aO 10 k, aO 11 k, aO 12 k)) aO (nI j)).2.2.1, (F_X7_reads (mS oO k (aO 8 k, aO 9 k, aO 10 k, aO 11 k, aO 12 k)) aO (nI j)).2.2.2.1, (F_X7_reads (mS oO k (aO 8 k, aO 9 k, aO 10 k, aO 11 k, aO 12 k)) aO (nI j)).2.2.2.2, aO 0, upd (aO 8) k (F_X7_reads (mS oO k (aO 8 k, aO 9 k, aO 10 k, aO 11 k, aO 12 k)) aO (nI j)).1, upd (aO 9) k (F_X7_reads (mS oO k (aO 8 k, aO 9 k, aO 10 k, aO 11 k, aO 12 k)) aO (nI j)).2.1, upd (aO 10) k (F_X7_reads (mS oO k (aO 8 k, aO 9 k, aO 10 k, aO 11 k, aO 12 k)) aO (nI j)).2.2.1, upd (aO 11) k (F_X7_reads (mS oO k (aO 8 k, aO 9 k, aO 10 k, aO 11 k, aO 12 k)) aO (nI j)).2.2.2.1, upd (aO 12) k (F_X7_reads (mS oO k (aO 8 k, aO 9 k, aO 10 k, aO 11 k, aO 12 k)) aO (nI j)).2.2.2.2) := by
          rw [ey]; unfold F_X7_read; dsimp only; rw [if_neg w2, if_neg c1, hS', r2, if_pos (nI_pos' (by omega)), hm]
          dsimp only
          rw [hw]
          generalize F_X7_reads (mS oO k (aO 8 k, aO 9 k, aO 10 k, aO 11 k, aO 12 k)) aO (nI j) = v
          by_cases d : v.2.2.2.2 = 1
          · rw [if_pos d, if_pos d]
          · rw [if_neg d, if_neg d]
        clear ez ey
        subst e1 e2
        exact ⟨rfl, h.put hk4 hk1 rV' rD h.2.2.1 rfl rfl rfl rfl rfl rfl rfl rfl rfl rfl rfl⟩
  · have e1 : z = ((F_X6_refuse oM fY (-1)).1, (F_X6_refuse oM fY (-1)).2, LP) := by rw [ez]; unfold F_X6_read; dsimp only; rw [if_neg w1]
    have e2 : y = ((F_X7_no oO aO (-1)).1, oO 30, oO 31, oO 32, oO 33, oO 34, oO 35, (F_X7_no oO aO (-1)).2, aO 8, aO 9, aO 10, aO 11, aO 12) := by rw [ey]; unfold F_X7_read; dsimp only; rw [if_pos w2]
    have u := ref_no (M := oM) (o := oO) (a := aO) (w := -1) h.2.2.1 (by decide) (by decide)
    clear ez ey
    subst e1 e2
    exact ⟨u.1, h.cg u.2 rfl rfl rfl rfl rfl rfl rfl rfl rfl rfl rfl rfl rfl rfl rfl rfl rfl rfl rfl rfl rfl rfl rfl rfl rfl rfl⟩

theorem t_away {oM : Nat → Int32} {nC : Int32} {qS : Nat → Nat → Int32} {nS : Int32} {gB : Nat → Int32} {LP : Nat → Nat → Int32} {fN : Nat → Int32} {nN : Int32} {fZ : Nat → Int32} {fY : Nat → Int32} {nE : Int32} {qU : Nat → Nat → Int32} {nU : Int32} {gH : Nat → Int32} {LQ : Nat → Nat → Int32} {oO : Nat → Int32} {aO : Nat → Nat → Int32} {wW : Nat → Nat} {p0 : Int32} {p1 : Int32} (h : INV oM nC qS nS gB LP fN nN fZ fY nE qU nU gH LQ oO aO) {z : Int32 × (Nat → Int32) × (Nat → Nat → Int32)} (ez : z = F_X6_away oM nC wW gB fY LP p0 p1) {y : Int32 × Int32 × Int32 × Int32 × Int32 × Int32 × Int32 × (Nat → Int32) × (Nat → Int32) × (Nat → Int32) × (Nat → Int32) × (Nat → Int32) × (Nat → Int32)} (ey : y = F_X7_away oO aO p0 p1) : z.1 = y.1 ∧ INV oM nC qS nS gB z.2.2 fN nN fZ z.2.1 nE qU nU gH LQ (upd (upd (upd (upd (upd (upd oO 30 y.2.1) 31 y.2.2.1) 32 y.2.2.2.1) 33 y.2.2.2.2.1) 34 y.2.2.2.2.2.1) 35 y.2.2.2.2.2.2.1) (va_up (va_up (va_up (va_up (va_up (va_up aO 0 y.2.2.2.2.2.2.2.1) 8 y.2.2.2.2.2.2.2.2.1) 9 y.2.2.2.2.2.2.2.2.2.1) 10 y.2.2.2.2.2.2.2.2.2.2.1) 11 y.2.2.2.2.2.2.2.2.2.2.2.1) 12 y.2.2.2.2.2.2.2.2.2.2.2.2) := by
  have key : ∀ w : Int32, -7 < w.toInt → w.toInt ≤ 0 → z = ((F_X6_refuse oM fY w).1, (F_X6_refuse oM fY w).2, LP) → y = ((F_X7_no oO aO w).1, oO 30, oO 31, oO 32, oO 33, oO 34, oO 35, (F_X7_no oO aO w).2, aO 8, aO 9, aO 10, aO 11, aO 12) → z.1 = y.1 ∧ INV oM nC qS nS gB z.2.2 fN nN fZ z.2.1 nE qU nU gH LQ (upd (upd (upd (upd (upd (upd oO 30 y.2.1) 31 y.2.2.1) 32 y.2.2.2.1) 33 y.2.2.2.2.1) 34 y.2.2.2.2.2.1) 35 y.2.2.2.2.2.2.1) (va_up (va_up (va_up (va_up (va_up (va_up aO 0 y.2.2.2.2.2.2.2.1) 8 y.2.2.2.2.2.2.2.2.1) 9 y.2.2.2.2.2.2.2.2.2.1) 10 y.2.2.2.2.2.2.2.2.2.2.1) 11 y.2.2.2.2.2.2.2.2.2.2.2.1) 12 y.2.2.2.2.2.2.2.2.2.2.2.2) := by
    intro w hw1 hw2 e1 e2
    have u := ref_no (M := oM) (o := oO) (a := aO) (w := w) h.2.2.1 hw1 hw2
    clear ez ey
    subst e1 e2
    exact ⟨u.1, h.cg u.2 rfl rfl rfl rfl rfl rfl rfl rfl rfl rfl rfl rfl rfl rfl rfl rfl rfl rfl rfl rfl rfl rfl rfl rfl rfl rfl⟩
  rcases wk_lk (p := p0) (a := aO) h.1.2.2.1 h.2.1.2.1 with ⟨w1, w2, k, hk, hk4, hk1, hkc⟩ | ⟨w1, w2⟩
  · by_cases c : F_X6_outside p1 1 60 = 0
    · have l7 : LP k 7 = aO 12 k := (h.rv hk1).2.2.2.2.2.2.2
      rcases (h.dm hk1).2.2.1 with d | d
      · have d : aO 12 k = 0 := d
        have hm := mi_eq (o := oO) (a := aO) hk4
        rw [← hk] at hm
        have X := h.cx hk1 (aO 8 k, aO 9 k, aO 10 k, aO 11 k, aO 12 k)
        have hb := bd_in c
        rw [show (1 : Int32).toInt = 1 from rfl, show (60 : Int32).toInt = 60 from rfl] at hb
        obtain ⟨V, D⟩ := la_ok X (h.rv hk1) (h.dm hk1) d (s := p1) ⟨by omega, hb.2⟩
        have hS' : (upd (upd (upd (upd (upd (upd oO 30 p0) 31 (aO 8 k)) 32 (aO 9 k)) 33 (aO 10 k)) 34 (aO 11 k)) 35 (aO 12 k)) = mS oO k (aO 8 k, aO 9 k, aO 10 k, aO 11 k, aO 12 k) := by rw [hk]; rfl
        have e1 : z = ((F_X2_lookAway (LP k) gB p1) 3, fY, va_up LP k (F_X2_lookAway (LP k) gB p1)) := by
          rw [ez]; unfold F_X6_away; dsimp only; rw [if_pos w1, if_pos c, hkc, if_pos (by rw [l7]; exact d)]
        obtain ⟨y7, ey7⟩ : ∃ v, v = F_X7_looksAway (mS oO k (aO 8 k, aO 9 k, aO 10 k, aO 11 k, aO 12 k)) aO p1 := ⟨_, rfl⟩
        rw [← ey7] at V D
        have e2 : y = (y7.1, p0, y7.1, y7.2.1, aO 10 k, aO 11 k, y7.2.2, aO 0, upd (aO 8) k y7.1, upd (aO 9) k y7.2.1, upd (aO 10) k (aO 10 k), upd (aO 11) k (aO 11 k), upd (aO 12) k y7.2.2) := by
          rw [ey]; unfold F_X7_away; dsimp only; rw [if_neg w2, bd_eq, if_pos c, hkc, if_neg (by rw [d]; decide), if_pos c, hm]
          dsimp only
          rw [hS', ← ey7]
          unfold F_X7_isMinded
          show (_, _, _, _, _, _, _, _, upd (aO 8) p0.toNatClampNeg y7.1, upd (aO 9) p0.toNatClampNeg y7.2.1, upd (aO 10) p0.toNatClampNeg (aO 10 k), upd (aO 11) p0.toNatClampNeg (aO 11 k), upd (aO 12) p0.toNatClampNeg y7.2.2) = _
          rw [hkc]
        clear ez ey key
        subst e1 e2
        exact ⟨V.2.2.2.1, h.put hk4 hk1 V D h.2.2.1 rfl rfl rfl rfl rfl rfl rfl rfl rfl rfl rfl⟩
      · have d : aO 12 k = 1 := d
        exact key (-3) (by decide) (by decide) (by rw [ez]; unfold F_X6_away; dsimp only; rw [if_pos w1, if_pos c, hkc, if_neg (by rw [l7, d]; decide)]) (by rw [ey]; unfold F_X7_away; dsimp only; rw [if_neg w2, bd_eq, if_pos c, hkc, if_pos d])
    · exact key _ bd_rng.1 bd_rng.2 (by rw [ez]; unfold F_X6_away; dsimp only; rw [if_pos w1, if_neg c]) (by rw [ey]; unfold F_X7_away; dsimp only; rw [if_neg w2, bd_eq, if_neg c, if_neg c])
  · exact key (-1) (by decide) (by decide) (by rw [ez]; unfold F_X6_away; dsimp only; rw [if_neg w1]) (by rw [ey]; unfold F_X7_away; dsimp only; rw [if_pos w2])
