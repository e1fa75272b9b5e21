/-! the class's state against the reference's -/
/-- a looker -/
def lkR (L : Nat → Int32) (a : Nat → Nat → Int32) (k : Nat) : Prop := L 0 = a 5 k ∧ L 1 = a 6 k ∧ L 2 = a 7 k ∧ L 3 = a 8 k ∧ L 4 = a 9 k ∧ L 5 = a 10 k ∧ L 6 = a 11 k ∧ L 7 = a 12 k
/-- a scene -/
def SR (q : Nat → Nat → Int32) (n : Int32) (g : Nat → Int32) (nC : Int32) (L : Nat → Nat → Int32) (o : Nat → Int32) (a : Nat → Nat → Int32) : Prop := rS q n o a ∧ (rB g o ∧ g 4 = 0) ∧ nC = o 14 ∧ ∀ k : Nat, (k : Int) < (o 14).toInt → lkR (L k) a k
/-- a line's data -/
def dL (a : Nat → Nat → Int32) (l : Nat) : Prop := (0 ≤ (a 1 l).toInt ∧ (a 1 l).toInt < 4) ∧ (0 ≤ (a 3 l).toInt ∧ (a 3 l).toInt ≤ 9) ∧ (1 ≤ (a 4 l).toInt ∧ (a 4 l).toInt ≤ 9)
/-- a looker's data -/
def dK (a : Nat → Nat → Int32) (k : Nat) : Prop := (0 ≤ (a 5 k).toInt ∧ (a 5 k).toInt ≤ 2) ∧ (0 ≤ (a 10 k).toInt ∧ (a 10 k).toInt + unr (a 11 k) 8 ≤ 8 + (a 12 k).toInt) ∧ (∀ i : Nat, 8 ≤ i → i < 32 → bt (a 11 k) i = false) ∧ (a 12 k = 0 ∨ a 12 k = 1) ∧ (1 ≤ (a 6 k).toInt ∧ (a 6 k).toInt ≤ 4) ∧ (0 ≤ (a 8 k).toInt ∧ (a 8 k).toInt ≤ 1200 ∧ (a 12 k = 0 → (a 8 k).toInt ≤ 999))
/-- the holder's -/
def dH (o : Nat → Int32) : Prop := (0 ≤ (o 16).toInt ∧ (o 16).toInt ≤ 9) ∧ (10 ≤ (o 17).toInt ∧ (o 17).toInt ≤ 99) ∧ (-1 ≤ (o 18).toInt ∧ (o 18).toInt ≤ 1)
def DR (o : Nat → Int32) (a : Nat → Nat → Int32) : Prop := (0 ≤ (o 13).toInt ∧ (o 13).toInt ≤ 8) ∧ (0 ≤ (o 14).toInt ∧ (o 14).toInt ≤ 4) ∧ (∀ l : Nat, (l : Int) < (o 13).toInt → dL a l) ∧ dH o ∧ ∀ k : Nat, (k : Int) < (o 14).toInt → dK a k
/-- what the reference has kept -/
def kO (f : Nat → Int32) : Nat → Int32 := fun i => f (51 + i)
def kA (f : Nat → Int32) : Nat → Nat → Int32 := fun i j => if i < 5 then f (8 * (i - 1) + j) else f (32 + 4 * (i - 5) + j)
def rY (f g : Nat → Int32) : Prop := ∀ j, j < 7 → f j = g j
def INV (M : Nat → Int32) (nC : Int32) (q : Nat → Nat → Int32) (n : Int32) (g : Nat → Int32) (L : Nat → Nat → Int32) (fN : Nat → Int32) (nN : Int32) (fZ fY : Nat → Int32) (nE : Int32) (qU : Nat → Nat → Int32) (nU : Int32) (gH : Nat → Int32) (LQ : Nat → Nat → Int32) (o : Nat → Int32) (a : Nat → Nat → Int32) : Prop :=
  SR q n g nC L o a ∧ DR o a ∧ rY fY (a 0) ∧ (nN = o 23 ∧ (0 ≤ (o 23).toInt ∧ (o 23).toInt ≤ 96) ∧ ∀ j : Nat, (j : Int) < (o 23).toInt → fN j = a 19 j) ∧ (M 8 = o 45 ∧ (0 ≤ (o 45).toInt ∧ (o 45).toInt ≤ 12) ∧ ∀ j : Nat, (j : Int) < (o 45).toInt → fZ j = a 44 j ∧ 0 ≤ (a 44 j).toInt ∧ (a 44 j).toInt ≤ 9) ∧ (o 36 = 0 ∧ o 37 = 999) ∧ (M 9 = o 27 ∧ (o 27 = 0 ∨ (o 27 = 1 ∧ SR qU nU gH nE LQ (kO (a 26)) (kA (a 26)) ∧ DR (kO (a 26)) (kA (a 26))))) ∧ (∀ j : Nat, j < 4 → L j 7 = 0 ∨ L j 7 = 1) ∧ (∀ j : Nat, j < 4 → LQ j 7 = 0 ∨ LQ j 7 = 1)
section IV
variable {M : Nat → Int32} {nC : Int32} {q : Nat → Nat → Int32} {n : Int32} {g : Nat → Int32} {L : Nat → Nat → Int32} {fN : Nat → Int32} {nN : Int32} {fZ fY : Nat → Int32} {nE : Int32} {qU : Nat → Nat → Int32} {nU : Int32} {gH : Nat → Int32} {LQ : Nat → Nat → Int32} {o : Nat → Int32} {a : Nat → Nat → Int32}
theorem INV.cg (h : INV M nC q n g L fN nN fZ fY nE qU nU gH LQ o a) {fY' : Nat → Int32} {o' : Nat → Int32} {a' : Nat → Nat → Int32} (hY : rY fY' (a' 0)) (e13 : o' 13 = o 13) (e14 : o' 14 = o 14) (e15 : o' 15 = o 15) (e16 : o' 16 = o 16) (e17 : o' 17 = o 17) (e18 : o' 18 = o 18) (e23 : o' 23 = o 23) (e27 : o' 27 = o 27) (e36 : o' 36 = o 36) (e37 : o' 37 = o 37) (e45 : o' 45 = o 45) (s1 : a' 1 = a 1) (s2 : a' 2 = a 2) (s3 : a' 3 = a 3) (s4 : a' 4 = a 4) (s5 : a' 5 = a 5) (s6 : a' 6 = a 6) (s7 : a' 7 = a 7) (s8 : a' 8 = a 8) (s9 : a' 9 = a 9) (s10 : a' 10 = a 10) (s11 : a' 11 = a 11) (s12 : a' 12 = a 12) (s19 : a' 19 = a 19) (s26 : a' 26 = a 26) (s44 : a' 44 = a 44) : INV M nC q n g L fN nN fZ fY' nE qU nU gH LQ o' a' := by
  unfold INV SR DR dH rS rB lkR dL dK at h ⊢
  rw [e13, e14, e15, e16, e17, e18, e23, e27, e36, e37, e45, s1, s2, s3, s4, s5, s6, s7, s8, s9, s10, s11, s12, s19, s26, s44]
  exact ⟨h.1, h.2.1, hY, h.2.2.2⟩
/-- a call that changes nothing but refusals and what is in mind -/
theorem INV.lk (h : INV M nC q n g L fN nN fZ fY nE qU nU gH LQ o a) {k : Nat} (hk : (k : Int) < (o 14).toInt) : lkR (L k) a k := h.1.2.2.2 k hk
theorem INV.hz (h : INV M nC q n g L fN nN fZ fY nE qU nU gH LQ o a) : ∀ j, j < 4 → zb (L j 7) := fun j hj => by
  rcases h.2.2.2.2.2.2.2.1 j hj with e | e
  · rw [e]; exact zb_0
  · rw [e]; exact zb_1
theorem INV.hzQ (h : INV M nC q n g L fN nN fZ fY nE qU nU gH LQ o a) : ∀ j, j < 4 → zb (LQ j 7) := fun j hj => by
  rcases h.2.2.2.2.2.2.2.2 j hj with e | e
  · rw [e]; exact zb_0
  · rw [e]; exact zb_1
end IV
theorem i_mul3 {x : Int32} (h1 : -1000 ≤ x.toInt) (h2 : x.toInt < 1000) : (3 * x).toInt = 3 * x.toInt := by
  rw [Int32.toInt_mul, show (3 : Int32).toInt = 3 from rfl]
  exact fb_bmod0 (by omega) (by omega)
theorem i_mul5 {x : Int32} (h1 : -1000 ≤ x.toInt) (h2 : x.toInt < 1000) : (5 * x).toInt = 5 * x.toInt := by
  rw [Int32.toInt_mul, show (5 : Int32).toInt = 5 from rfl]
  exact fb_bmod0 (by omega) (by omega)
theorem i_mulm4 {x : Int32} (h1 : -1000 ≤ x.toInt) (h2 : x.toInt < 1000) : (4 * x).toInt = 4 * x.toInt := by
  rw [Int32.toInt_mul, show (4 : Int32).toInt = 4 from rfl]
  exact fb_bmod0 (by omega) (by omega)
/-- refusals -/
theorem ref_no {M fY o : Nat → Int32} {a : Nat → Nat → Int32} {w : Int32} (h : rY fY (a 0)) (h1 : -7 < w.toInt) (h2 : w.toInt ≤ 0) : (F_X6_refuse M fY w).1 = (F_X7_no o a w).1 ∧ rY (F_X6_refuse M fY w).2 (F_X7_no o a w).2 := by
  have e1 : (-w).toInt = -w.toInt := i_neg rfl (by omega)
  obtain ⟨i, hi⟩ : ∃ i, i = (-w).toInt.toNat := ⟨_, rfl⟩
  have e2 : -w = nI i := by rw [hi]; exact x_nIt (by omega)
  unfold F_X6_refuse F_X7_no
  dsimp only
  rw [e2, q_at (by omega) (by omega), q_put (by omega) (by omega), nI_clamp (by omega)]
  refine ⟨rfl, fun j hj => ?_⟩
  show upd fY i (fY i + 1) j = upd (a 0) i (a 0 i + 1) j
  by_cases e : j = i
  · subst e; rw [pk_us, pk_us, h j hj]
  · rw [pk_un e, pk_un e, h j hj]
theorem bd_eq (v l m : Int32) : F_X7_bound v l m = F_X6_outside v l m := rfl
theorem bd_r {v l m : Int32} : F_X6_outside v l m = 0 ∨ F_X6_outside v l m = -6 ∨ F_X6_outside v l m = -4 := by
  unfold F_X6_outside
  split
  · split
    · exact Or.inl rfl
    · exact Or.inr (Or.inl rfl)
  · exact Or.inr (Or.inr rfl)
theorem bd_rng {v l m : Int32} : -7 < (F_X6_outside v l m).toInt ∧ (F_X6_outside v l m).toInt ≤ 0 := by
  rcases bd_r (v := v) (l := l) (m := m) with e | e | e <;> (rw [e]; decide)
theorem bd_in {v l m : Int32} (h : F_X6_outside v l m = 0) : l.toInt ≤ v.toInt ∧ v.toInt ≤ m.toInt := sem_X7_bound_z rfl h
/-- a looker that is there -/
theorem wk_lk {nC p : Int32} {o : Nat → Int32} {a : Nat → Nat → Int32} (hC : nC = o 14) (h4 : 0 ≤ (o 14).toInt ∧ (o 14).toInt ≤ 4) : (wkb nC p = true ∧ ¬ F_X7_isLooker o a p = 0 ∧ ∃ k : Nat, p = nI k ∧ k < 4 ∧ (k : Int) < (o 14).toInt ∧ p.toNatClampNeg = k) ∨ (¬ wkb nC p = true ∧ F_X7_isLooker o a p = 0) := by
  unfold wkb F_X7_isLooker
  rw [hC]
  by_cases c1 : p < 0
  · right
    rw [if_pos c1, decide_eq_true c1]
    exact ⟨by simp, rfl⟩
  · by_cases c2 : o 14 ≤ p
    · right
      rw [if_neg c1, if_pos c2, decide_eq_true c2]
      exact ⟨by simp, rfl⟩
    · left
      have h0 := i_nlt c1
      have h1 := i_nle c2
      rw [show (0 : Int32).toInt = 0 from rfl] at h0
      have c3 : ¬ (4 : Int32) ≤ p := fun q => by have := i_le q; rw [show (4 : Int32).toInt = 4 from rfl] at this; omega
      rw [if_neg c1, if_neg c2, decide_eq_false c1, decide_eq_false c2, decide_eq_false c3]
      have hk : p.toNatClampNeg = p.toInt.toNat := rfl
      exact ⟨rfl, by decide, p.toInt.toNat, x_nIt h0, by omega, by omega, hk⟩
theorem bo_tn {o : Nat → Int32} {a : Nat → Nat → Int32} {n : Int32} (H : dH o) (hn : 0 ≤ n.toInt ∧ n.toInt ≤ 50) : 0 ≤ (F_X7_turnsFor o a n).toInt ∧ (F_X7_turnsFor o a n).toInt ≤ 999 := by
  obtain ⟨h1, h2, h3⟩ := H
  have e3 := i_mul3 (x := o 16) (by omega) (by omega)
  have e5 := i_mul5 (x := n) (by omega) (by omega)
  have e4 := i_mulm4 (x := n) (by omega) (by omega)
  have key : ∀ v : Int32, v.toInt ≤ 999 → 0 ≤ (if 0 ≤ v then v else 0).toInt ∧ (if 0 ≤ v then v else 0).toInt ≤ 999 := by
    intro v hv
    by_cases c : 0 ≤ v
    · rw [if_pos c]; exact ⟨i_le c, hv⟩
    · rw [if_neg c]; decide
  unfold F_X7_turnsFor
  dsimp only
  split
  · refine key _ ?_
    rw [i_add (x := o 17 + 3 * o 16) rfl (by omega) (by omega)]
    omega
  · split
    · refine key _ ?_
      have e6 : (3 * o 16 + 5 * n).toInt = 3 * (o 16).toInt + 5 * n.toInt := (i_add rfl (by omega) (by omega)).trans (by rw [e3, e5])
      rw [i_add (x := o 17 + (3 * o 16 + 5 * n)) rfl (by omega) (by omega)]
      omega
    · split
      · refine key _ ?_
        rw [i_sub (x := o 17 - 4 * n) rfl (by omega) (by omega)]
        omega
      · split
        · refine key _ ?_
          have e6 : (4 * n + o 16).toInt = 4 * n.toInt + (o 16).toInt := (i_add rfl (by omega) (by omega)).trans (by rw [e4])
          rw [i_sub (x := o 17 - (4 * n + o 16)) rfl (by omega) (by omega)]
          omega
        · exact key _ (by omega)
/-- worths are small -/
theorem bo_half {x : Int32} (h : 0 ≤ x.toInt ∧ x.toInt ≤ 9) : 0 ≤ (x / 2).toInt ∧ (x / 2).toInt ≤ 9 := by
  have h3 : (x / 2).toInt = x.toInt.tdiv 2 := by
    rw [Int32.toInt_div_of_ne_right x 2 (by decide)]
    rfl
  rw [h3, Int.tdiv_eq_ediv_of_nonneg h.1]
  omega
theorem bo_aheadL {o : Nat → Int32} {a : Nat → Nat → Int32} {p : Int32} (hp : p.toInt ≤ 8) : ∀ (n : Nat) (x y : Int32), (p.toInt - y.toInt).toNat < n → 0 ≤ y.toInt → 0 ≤ x.toInt → x.toInt ≤ y.toInt → 0 ≤ (F_X7_ahead_L4 o a p n x y).toInt ∧ (F_X7_ahead_L4 o a p n x y).toInt ≤ 8 ∨ p.toInt < y.toInt := by
  intro n
  induction n with
  | zero => intro x y h; exact absurd h (Nat.not_lt_zero _)
  | succ n ih =>
    intro x y hm hy hx hxy
    have e1 : F_X7_ahead_L4 o a p (n + 1) x y = if p ≤ y then x else if a 1 y.toNatClampNeg = a 1 p.toNatClampNeg then F_X7_ahead_L4 o a p n (x + 1) (y + 1) else F_X7_ahead_L4 o a p n (x + 0) (y + 1) := rfl
    rw [e1]
    by_cases c : p ≤ y
    · have := i_le c
      rw [if_pos c]
      by_cases c2 : p.toInt < y.toInt
      · exact Or.inr c2
      · exact Or.inl ⟨hx, by omega⟩
    · have c1 := i_nle c
      have ey := x_add1 (v := y) (by omega)
      have ex := x_add1 (v := x) (by omega)
      rw [if_neg c]
      split
      · rcases ih (x + 1) (y + 1) (x_up c hm) (by omega) (by omega) (by omega) with r | r
        · exact Or.inl r
        · exact absurd r (by omega)
      · rw [Int32.add_zero]
        rcases ih x (y + 1) (x_up c hm) (by omega) (by omega) (by omega) with r | r
        · exact Or.inl r
        · exact absurd r (by omega)
theorem bo_worth {o : Nat → Int32} {a : Nat → Nat → Int32} {l : Nat} (hl : l < 8) (h : 0 ≤ (a 3 l).toInt ∧ (a 3 l).toInt ≤ 9) : 0 ≤ (F_X7_worthOf o a (nI l)).toInt ∧ (F_X7_worthOf o a (nI l)).toInt ≤ 100 := by
  have hh := bo_half h
  have ha : 0 ≤ (F_X7_ahead o a (nI l)).toInt ∧ (F_X7_ahead o a (nI l)).toInt ≤ 8 := by
    rcases bo_aheadL (o := o) (a := a) (p := nI l) (by rw [nI_toInt (by omega)]; omega) _ 0 0 (Nat.lt_succ_self _) (by decide) (by decide) (by decide) with r | r
    · exact r
    · rw [nI_toInt (by omega), show (0 : Int32).toInt = 0 from rfl] at r
      omega
  have l2 : (2 : Int32).toInt = 2 := rfl
  have l5 : (5 : Int32).toInt = 5 := rfl
  unfold F_X7_worthOf
  dsimp only
  rw [nI_clamp (by omega), Int32.add_zero]
  split
  · omega
  · split
    · omega
    · split
      · split
        · omega
        · split
          · omega
          · rw [i_add (x := a 3 l / 2 + 2) rfl (by omega) (by omega)]; omega
      · split
        · rw [i_add (x := a 3 l + 5) rfl (by omega) (by omega)]; omega
        · split
          · rw [i_add (x := a 3 l + F_X7_ahead o a (nI l)) rfl (by omega) (by omega)]; omega
          · omega
theorem DR.ok {o : Nat → Int32} {a : Nat → Nat → Int32} (h : DR o a) : rOK o a := ⟨h.1, fun l hl => bo_worth (by have := h.1; omega) (h.2.2.1 l hl).2.1⟩
theorem bo_cost {o : Nat → Int32} {a : Nat → Nat → Int32} {l k : Nat} (hl : l < 8) (hk : k < 4) (h3 : 0 ≤ (a 3 l).toInt ∧ (a 3 l).toInt ≤ 9) (h4 : 1 ≤ (a 4 l).toInt ∧ (a 4 l).toInt ≤ 9) (h6 : 1 ≤ (a 6 k).toInt ∧ (a 6 k).toInt ≤ 4) : 1 ≤ (F_X7_takesOf o a (nI l) (nI k)).toInt ∧ (F_X7_takesOf o a (nI l) (nI k)).toInt ≤ 48 := by
  have hm : (a 4 l * a 6 k).toInt = (a 4 l).toInt * (a 6 k).toInt ∧ 1 ≤ (a 4 l).toInt * (a 6 k).toInt ∧ (a 4 l).toInt * (a 6 k).toInt ≤ 36 := by
    have h7 : 1 ≤ (a 4 l).toInt * (a 6 k).toInt ∧ (a 4 l).toInt * (a 6 k).toInt ≤ 36 := by
      rcases (show (a 6 k).toInt = 1 ∨ (a 6 k).toInt = 2 ∨ (a 6 k).toInt = 3 ∨ (a 6 k).toInt = 4 by omega) with e | e | e | e <;> (rw [e]; omega)
    refine ⟨?_, h7⟩
    rw [Int32.toInt_mul]
    exact fb_bmod0 (by omega) (by omega)
  obtain ⟨m1, m2, m3⟩ := hm
  have l3 : (3 : Int32).toInt = 3 := rfl
  have l1 : (1 : Int32).toInt = 1 := rfl
  unfold F_X7_takesOf
  dsimp only
  rw [nI_clamp (by omega), nI_clamp (by omega)]
  generalize a 4 l * a 6 k = v at *
  have hhalf : 1 ≤ (if v ≤ 1 then (1 : Int32) else v / 2).toInt ∧ (if v ≤ 1 then (1 : Int32) else v / 2).toInt ≤ 48 := by
    by_cases c : v ≤ 1
    · rw [if_pos c]; decide
    · have c1 := i_nle c
      have h3 : (v / 2).toInt = v.toInt.tdiv 2 := by
        rw [Int32.toInt_div_of_ne_right v 2 (by decide)]
        rfl
      rw [if_neg c, h3, Int.tdiv_eq_ediv_of_nonneg (by omega)]
      omega
  split
  · exact hhalf
  · split
    · rw [i_add (x := v + a 3 l) rfl (by omega) (by omega)]; omega
    · split
      · exact hhalf
      · split
        · have e1 : (v + a 3 l).toInt = v.toInt + (a 3 l).toInt := i_add rfl (by omega) (by omega)
          rw [i_add (x := v + a 3 l + 3) rfl (by omega) (by omega)]; omega
        · omega
theorem SR.set {q : Nat → Nat → Int32} {n : Int32} {g : Nat → Int32} {nC : Int32} {L : Nat → Nat → Int32} {o : Nat → Int32} {a a' : Nat → Nat → Int32} {f : Nat → Int32} {k : Nat} (h : SR q n g nC L o a) (hS : rS q n o a') (hf : lkR f a' k) (ho : ∀ j i : Nat, j ≠ k → 5 ≤ i → i ≤ 12 → a' i j = a i j) : SR q n g nC (va_up L k f) o a' := ⟨hS, h.2.1, h.2.2.1, fun j hj => by
  by_cases e : j = k
  · subst e
    rw [va_up_self]
    exact hf
  · rw [va_up_ne _ _ e]
    have h9 := h.2.2.2 j hj
    unfold lkR at h9 ⊢
    rw [ho j 5 e (by omega) (by omega), ho j 6 e (by omega) (by omega), ho j 7 e (by omega) (by omega), ho j 8 e (by omega) (by omega), ho j 9 e (by omega) (by omega), ho j 10 e (by omega) (by omega), ho j 11 e (by omega) (by omega), ho j 12 e (by omega) (by omega)]
    exact h9⟩
theorem DR.set {o : Nat → Int32} {a a' : Nat → Nat → Int32} {k : Nat} (h : DR o a) (h1 : a' 1 = a 1) (h3 : a' 3 = a 3) (h4 : a' 4 = a 4) (hk : dK a' k) (ho : ∀ j i : Nat, j ≠ k → 5 ≤ i → i ≤ 12 → a' i j = a i j) : DR o a' := ⟨h.1, h.2.1, fun l hl => by have h9 := h.2.2.1 l hl; unfold dL at h9 ⊢; rw [h1, h3, h4]; exact h9, h.2.2.2.1, fun j hj => by
  by_cases e : j = k
  · subst e; exact hk
  · have h9 := h.2.2.2.2 j hj
    unfold dK at h9 ⊢
    rw [ho j 5 e (by omega) (by omega), ho j 6 e (by omega) (by omega), ho j 8 e (by omega) (by omega), ho j 10 e (by omega) (by omega), ho j 11 e (by omega) (by omega), ho j 12 e (by omega) (by omega)]
    exact h9⟩
theorem hz_set {L : Nat → Nat → Int32} {k : Nat} {f : Nat → Int32} (h : ∀ j : Nat, j < 4 → L j 7 = 0 ∨ L j 7 = 1) (hf : f 7 = 0 ∨ f 7 = 1) : ∀ j : Nat, j < 4 → va_up L k f j 7 = 0 ∨ va_up L k f j 7 = 1 := fun j hj => by
  by_cases e : j = k
  · subst e; rw [va_up_self]; exact hf
  · rw [va_up_ne _ _ e]; exact h j hj
