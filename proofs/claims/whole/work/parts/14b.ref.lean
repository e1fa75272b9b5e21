/-! the reference's search comes to the walk -/
/-- what the reference's search rests on, the same in two states -/
def fr7 (o : Nat → Int32) (a : Nat → Nat → Int32) (S : Nat → Int32) (A : Nat → Nat → Int32) : Prop := (S 13 = o 13 ∧ S 15 = o 15 ∧ S 16 = o 16 ∧ S 17 = o 17 ∧ S 18 = o 18 ∧ S 30 = o 30 ∧ S 36 = o 36 ∧ S 37 = o 37) ∧ (A 1 = a 1 ∧ A 2 = a 2 ∧ A 3 = a 3 ∧ A 4 = a 4 ∧ A 5 = a 5 ∧ A 6 = a 6 ∧ A 7 = a 7)
section CG
variable {o S : Nat → Int32} {a A : Nat → Nat → Int32}
theorem cg_aheadL {p : Int32} (h1 : A 1 = a 1) : ∀ (n : Nat) (x y : Int32), F_X7_ahead_L4 S A p n x y = F_X7_ahead_L4 o a p n x y := by
  intro n
  induction n with
  | zero => intros; rfl
  | succ n ih =>
    intro x y
    have e1 : F_X7_ahead_L4 S A p (n + 1) x y = if p ≤ y then x else if A 1 y.toNatClampNeg = A 1 p.toNatClampNeg then F_X7_ahead_L4 S A p n (x + 1) (y + 1) else F_X7_ahead_L4 S A p n (x + 0) (y + 1) := rfl
    have e2 : F_X7_ahead_L4 o a p (n + 1) x y = if p ≤ y then x else if a 1 y.toNatClampNeg = a 1 p.toNatClampNeg then F_X7_ahead_L4 o a p n (x + 1) (y + 1) else F_X7_ahead_L4 o a p n (x + 0) (y + 1) := rfl
    rw [e1, e2, h1, ih, ih]
theorem cg_ahead {p : Int32} (h1 : A 1 = a 1) : F_X7_ahead S A p = F_X7_ahead o a p := cg_aheadL h1 _ _ _
theorem cg_justL {p : Int32} (h1 : A 1 = a 1) : ∀ (n : Nat) (x y : Int32), F_X7_justAhead_L5 S A p n x y = F_X7_justAhead_L5 o a p n x y := by
  intro n
  induction n with
  | zero => intros; rfl
  | succ n ih =>
    intro x y
    have e1 : F_X7_justAhead_L5 S A p (n + 1) x y = if p ≤ y then x else if A 1 y.toNatClampNeg = A 1 p.toNatClampNeg then F_X7_justAhead_L5 S A p n y (y + 1) else F_X7_justAhead_L5 S A p n x (y + 1) := rfl
    have e2 : F_X7_justAhead_L5 o a p (n + 1) x y = if p ≤ y then x else if a 1 y.toNatClampNeg = a 1 p.toNatClampNeg then F_X7_justAhead_L5 o a p n y (y + 1) else F_X7_justAhead_L5 o a p n x (y + 1) := rfl
    rw [e1, e2, h1, ih, ih]
theorem cg_just {p : Int32} (h1 : A 1 = a 1) : F_X7_justAhead S A p = F_X7_justAhead o a p := cg_justL h1 _ _ _
theorem cg_worth {p : Int32} (h1 : A 1 = a 1) (h2 : A 2 = a 2) (h3 : A 3 = a 3) : F_X7_worthOf S A p = F_X7_worthOf o a p := by
  unfold F_X7_worthOf
  dsimp only
  rw [cg_just (o := o) (a := a) h1, cg_ahead (o := o) (a := a) h1, h2, h3]
theorem cg_worthsL {p : Int32} (h0 : S 13 = o 13) (h1 : A 1 = a 1) (h2 : A 2 = a 2) (h3 : A 3 = a 3) : ∀ (n : Nat) (x y : Int32), F_X7_worthOfAll_L4 S A p n x y = F_X7_worthOfAll_L4 o a p n x y := by
  intro n
  induction n with
  | zero => intros; rfl
  | succ n ih =>
    intro x y
    have e1 : F_X7_worthOfAll_L4 S A p (n + 1) x y = if S 13 ≤ y then x else if (p >>> (y &&& 31)) &&& 1 = 1 then F_X7_worthOfAll_L4 S A p n (x + F_X7_worthOf S A y) (y + 1) else F_X7_worthOfAll_L4 S A p n (x + 0) (y + 1) := rfl
    have e2 : F_X7_worthOfAll_L4 o a p (n + 1) x y = if o 13 ≤ y then x else if (p >>> (y &&& 31)) &&& 1 = 1 then F_X7_worthOfAll_L4 o a p n (x + F_X7_worthOf o a y) (y + 1) else F_X7_worthOfAll_L4 o a p n (x + 0) (y + 1) := rfl
    rw [e1, e2, h0, ih, ih, cg_worth (o := o) (a := a) h1 h2 h3]
theorem cg_worths {p : Int32} (h0 : S 13 = o 13) (h1 : A 1 = a 1) (h2 : A 2 = a 2) (h3 : A 3 = a 3) : F_X7_worthOfAll S A p = F_X7_worthOfAll o a p := by
  unfold F_X7_worthOfAll
  rw [cg_worthsL (o := o) (a := a) h0 h1 h2 h3, h0]
theorem cg_takes {l k k' : Int32} (h2 : A 2 = a 2) (h3 : A 3 = a 3) (h4 : A 4 = a 4) (h6 : A 6 = a 6) (hk : k = k') : F_X7_takesOf S A l k = F_X7_takesOf o a l k' := by
  unfold F_X7_takesOf
  dsimp only
  rw [h2, h3, h4, h6, hk]
theorem cg_turns {n : Int32} (h1 : S 15 = o 15) (h2 : S 16 = o 16) (h3 : S 17 = o 17) : F_X7_turnsFor S A n = F_X7_turnsFor o a n := by
  unfold F_X7_turnsFor
  dsimp only
  rw [h1, h2, h3]
theorem cg_shown {c s : Int32} (h1 : S 15 = o 15) (h2 : S 16 = o 16) (h3 : S 18 = o 18) : F_X7_isShown S A c s = F_X7_isShown o a c s := by
  unfold F_X7_isShown
  dsimp only
  rw [h1, h2, h3]
end CG
/-- the reference's search, told to the walk -/
noncomputable def rP (o : Nat → Int32) (a : Nat → Nat → Int32) : SP := (a 1, (o 13).toInt.toNat, fun c => !decide (o 35 = 1) && !decide (F_X7_isShown o a c (a 5 (o 30).toNatClampNeg) = 0), fun l => F_X7_takesOf o a (nI l) (o 30), a 7 (o 30).toNatClampNeg, fun sec nt => !decide (F_X7_turnsFor o a nt - o 36 < sec) && !decide (o 37 < sec), fun l => (F_X7_worthOf o a (nI l)).toInt)
/-- the reference's data are as they must be -/
def rOK (o : Nat → Int32) (a : Nat → Nat → Int32) : Prop := (0 ≤ (o 13).toInt ∧ (o 13).toInt ≤ 8) ∧ ∀ l : Nat, (l : Int) < (o 13).toInt → 0 ≤ (F_X7_worthOf o a (nI l)).toInt ∧ (F_X7_worthOf o a (nI l)).toInt ≤ 100
theorem rOK.s {o : Nat → Int32} {a : Nat → Nat → Int32} (h : rOK o a) : sOK (rP o a) := ⟨by have := h.1; show (o 13).toInt.toNat ≤ 8; omega, fun l hl => h.2 l (by have h1 : l < (o 13).toInt.toNat := hl; have := h.1; omega)⟩
theorem va_all (o : Nat → Int32) (a : Nat → Nat → Int32) (rd : Int32) (h : rOK o a) : ∀ (m k : Nat), k + m = (o 13).toInt.toNat → ∀ (f : Nat) (x : Int32), m < f → x.toInt = s_sum (pW (rP o a)) (fun l => bt rd l) k → (F_X7_worthOfAll_L4 o a rd f x (nI k)).toInt = s_val (rP o a) rd := by
  have h0 := h.1
  intro m
  induction m with
  | zero =>
    intro k hk f x hf hx
    match f, hf with
    | f + 1, _ =>
      rw [F_X7_worthOfAll_L4, if_pos (by rw [Int32.le_iff_toInt_le, nI_toInt (by omega)]; omega), hx]
      show _ = s_sum _ _ (o 13).toInt.toNat
      rw [← hk, Nat.add_zero]
  | succ m ih =>
    intro k hk f x hf hx
    match f, hf with
    | f + 1, hf =>
      have e1 : F_X7_worthOfAll_L4 o a rd (f + 1) x (nI k) = if o 13 ≤ nI k then x else if (rd >>> (nI k &&& 31)) &&& 1 = 1 then F_X7_worthOfAll_L4 o a rd f (x + F_X7_worthOf o a (nI k)) (nI k + 1) else F_X7_worthOfAll_L4 o a rd f (x + 0) (nI k + 1) := rfl
      have hw := h.2 k (by omega)
      have hs : s_sum (pW (rP o a)) (fun l => bt rd l) (k + 1) = s_sum (pW (rP o a)) (fun l => bt rd l) k + (if bt rd k = true then (F_X7_worthOf o a (nI k)).toInt else 0) := rfl
      have b0 : 0 ≤ s_sum (pW (rP o a)) (fun l => bt rd l) k := s_sum_0 k (fun l hl => (h.2 l (by omega)).1)
      have b1 : s_sum (pW (rP o a)) (fun l => bt rd l) k ≤ 100 * k := s_sum_le k (fun l hl => h.2 l (by omega))
      rw [e1, if_neg (by rw [Int32.le_iff_toInt_le, nI_toInt (by omega)]; omega), nI_1]
      by_cases c : bt rd k = false
      · rw [if_neg (by rw [(b_bit (by omega)).mpr c]; decide), Int32.add_zero]
        refine ih (k + 1) (by omega) f x (by omega) ?_
        rw [hs, if_neg (by rw [c]; decide), hx, Int.add_zero]
      · have c1 : (rd >>> (nI k &&& 31)) &&& 1 = 1 := by
          rcases p_and1 (rd >>> (nI k &&& 31)) with q | q
          · exact absurd ((b_bit (by omega)).mp q) c
          · exact q
        rw [if_pos c1]
        refine ih (k + 1) (by omega) f _ (by omega) ?_
        rw [hs, if_pos (Bool.of_not_eq_false c), ← hx]
        exact i_add rfl (by omega) (by omega)
theorem va_eq {o : Nat → Int32} {a : Nat → Nat → Int32} {rd : Int32} (h : rOK o a) : (F_X7_worthOfAll o a rd).toInt = s_val (rP o a) rd := by
  have h0 := h.1
  exact va_all o a rd h (o 13).toInt.toNat 0 (by omega) ((((o 13).toInt - (0 : Int32).toInt).toNat) + 1) 0 (by rw [show (0 : Int32).toInt = 0 from rfl]; omega) rfl
section RD
variable {o S : Nat → Int32} {a A : Nat → Nat → Int32}
theorem rf_first (h8 : 0 ≤ (o 13).toInt ∧ (o 13).toInt ≤ 8) (hc : S 35 = 1 ↔ o 35 = 1) {c : Int32} (F : fr7 o a S A) : F_X7_firstIn S A c = eo (s_line (rP o a) (S 34) c) := by
  obtain ⟨⟨f1, f2, f3, f4, f5, f6, f7, f8⟩, g1, g2, g3, g4, g5, g6, g7⟩ := F
  rw [fi_eq S A c (N := (o 13).toInt.toNat) (by rw [f1]; omega) (by omega), cg_shown (o := o) (a := a) f2 f3 f5, g1, g5, f6]
  have hv : pVis (rP o a) c = (!decide (o 35 = 1) && !decide (F_X7_isShown o a c (a 5 (o 30).toNatClampNeg) = 0)) := rfl
  unfold s_line
  by_cases q1 : o 35 = 1
  · rw [if_pos (Or.inl (hc.mpr q1)), if_neg (by rw [hv, decide_eq_true q1, Bool.not_true, Bool.false_and]; decide)]
    rfl
  · by_cases q : F_X7_isShown o a c (a 5 (o 30).toNatClampNeg) = 0
    · rw [if_pos (Or.inr q), if_neg (by rw [hv, decide_eq_true q, Bool.not_true, Bool.and_false]; decide)]
      rfl
    · rw [if_neg (fun h => h.elim (fun h => q1 (hc.mp h)) q), if_pos (by rw [hv, decide_eq_false q, decide_eq_false q1]; rfl)]
      rfl
theorem rf_reads {l : Nat} (F : fr7 o a S A) : (∀ t, s_read (rP o a) l (S 31, S 32, S 33, S 34) = some t → F_X7_reads S A (nI l) = (t.1, t.2.1, t.2.2.1, t.2.2.2, S 35)) ∧ (s_read (rP o a) l (S 31, S 32, S 33, S 34) = none → (F_X7_reads S A (nI l)).2.2.2.2 = 1) := by
  obtain ⟨⟨f1, f2, f3, f4, f5, f6, f7, f8⟩, g1, g2, g3, g4, g5, g6, g7⟩ := F
  have ht : F_X7_takesOf S A (nI l) (S 30) = F_X7_takesOf o a (nI l) (o 30) := cg_takes g2 g3 g4 g6 f6
  unfold F_X7_reads s_read
  dsimp only
  rw [ht, g7, f6, f7, f8, cg_turns (o := o) (a := a) (S := upd (upd S 31 (S 31 + F_X7_takesOf o a (nI l) (o 30))) 32 (S 32 + F_X7_takesOf o a (nI l) (o 30))) f2 f3 f4, cg_turns (o := o) (a := a) (S := upd (upd (upd S 31 (S 31 + F_X7_takesOf o a (nI l) (o 30))) 32 0) 33 (S 33 + 1)) f2 f3 f4]
  show (∀ t, (if S 32 + F_X7_takesOf o a (nI l) (o 30) ≤ a 7 (o 30).toNatClampNeg then (if (!decide (F_X7_turnsFor o a (S 33) - o 36 < S 31 + F_X7_takesOf o a (nI l) (o 30)) && !decide (o 37 < S 31 + F_X7_takesOf o a (nI l) (o 30))) = true then some (S 31 + F_X7_takesOf o a (nI l) (o 30), S 32 + F_X7_takesOf o a (nI l) (o 30), S 33, S 34 ||| ((1 : Int32) <<< (nI l &&& 31))) else none) else (if (!decide (F_X7_turnsFor o a (S 33 + 1) - o 36 < S 31 + F_X7_takesOf o a (nI l) (o 30)) && !decide (o 37 < S 31 + F_X7_takesOf o a (nI l) (o 30))) = true then some (S 31 + F_X7_takesOf o a (nI l) (o 30), 0, S 33 + 1, S 34 ||| ((1 : Int32) <<< (nI l &&& 31))) else none)) = some t → _) ∧ ((if S 32 + F_X7_takesOf o a (nI l) (o 30) ≤ a 7 (o 30).toNatClampNeg then (if (!decide (F_X7_turnsFor o a (S 33) - o 36 < S 31 + F_X7_takesOf o a (nI l) (o 30)) && !decide (o 37 < S 31 + F_X7_takesOf o a (nI l) (o 30))) = true then some (S 31 + F_X7_takesOf o a (nI l) (o 30), S 32 + F_X7_takesOf o a (nI l) (o 30), S 33, S 34 ||| ((1 : Int32) <<< (nI l &&& 31))) else none) else (if (!decide (F_X7_turnsFor o a (S 33 + 1) - o 36 < S 31 + F_X7_takesOf o a (nI l) (o 30)) && !decide (o 37 < S 31 + F_X7_takesOf o a (nI l) (o 30))) = true then some (S 31 + F_X7_takesOf o a (nI l) (o 30), 0, S 33 + 1, S 34 ||| ((1 : Int32) <<< (nI l &&& 31))) else none)) = none → _)
  generalize F_X7_takesOf o a (nI l) (o 30) = v
  generalize F_X7_turnsFor o a (S 33) - o 36 = t1
  generalize F_X7_turnsFor o a (S 33 + 1) - o 36 = t2
  by_cases c1 : S 32 + v ≤ a 7 (o 30).toNatClampNeg
  · rw [if_pos c1, if_pos c1]
    by_cases c2 : t1 < S 31 + v
    · rw [if_pos c2, decide_eq_true c2]
      exact ⟨fun t h => (by cases h), fun _ => rfl⟩
    · rw [if_neg c2, decide_eq_false c2]
      by_cases c3 : o 37 < S 31 + v
      · rw [if_pos c3, decide_eq_true c3]
        exact ⟨fun t h => (by cases h), fun _ => rfl⟩
      · rw [if_neg c3, decide_eq_false c3]
        exact ⟨fun t h => (by cases h; rfl), fun h => by cases h⟩
  · rw [if_neg c1, if_neg c1]
    by_cases c2 : t2 < S 31 + v
    · rw [if_pos c2, decide_eq_true c2]
      exact ⟨fun t h => (by cases h), fun _ => rfl⟩
    · rw [if_neg c2, decide_eq_false c2]
      by_cases c3 : o 37 < S 31 + v
      · rw [if_pos c3, decide_eq_true c3]
        exact ⟨fun t h => (by cases h), fun _ => rfl⟩
      · rw [if_neg c3, decide_eq_false c3]
        exact ⟨fun t h => (by cases h; rfl), fun h => by cases h⟩
end RD

def pLv (o35 : Int32) (f : Nat → Int32) (d : Nat) (s : SS) (c : Nat) : Prop := f (6 * d) = s.1 ∧ f (6 * d + 1) = s.2.1 ∧ f (6 * d + 2) = s.2.2.1 ∧ f (6 * d + 3) = s.2.2.2 ∧ (f (6 * d + 4) = 1 ↔ o35 = 1) ∧ f (6 * d + 5) = nI c
def wAg (g : Nat → Int32) (w : List Int32) : Prop := ∀ k, k < w.length → w[k]? = some (g k)
def RB (x41 x42 x43 : Int32) (g : Nat → Int32) (b : SB) : Prop := x41.toInt = b.1 ∧ x42 = nI b.2.2.length ∧ x43 = b.2.1 ∧ b.2.2.length ≤ 8 ∧ wAg g b.2.2
theorem wAg.app {g : Nat → Int32} {w : List Int32} {c : Int32} (h : wAg g w) (hc : g w.length = c) : wAg g (w ++ [c]) := by
  intro k hk
  rw [List.length_append, List.length_singleton] at hk
  by_cases e : k < w.length
  · rw [List.getElem?_append_left e]
    exact h k e
  · have e2 : k = w.length := by omega
    subst e2
    rw [List.getElem?_concat_length, hc]
theorem wAg.of {g g' : Nat → Int32} {w : List Int32} (h : wAg g w) (hg : ∀ k, k < w.length → g' k = g k) : wAg g' w := fun k hk => by rw [hg k hk]; exact h k hk
theorem rf_keep {o : Nat → Int32} {a : Nat → Nat → Int32} (hW : rOK o a) {S : Nat → Int32} {A : Nat → Nat → Int32} (F : fr7 o a S A) {d : Nat} (hd : d ≤ 8) {b : SB} {w : List Int32} (hw : w.length = d) (hg : wAg (A 39) w) (hb : RB (S 41) (S 42) (S 43) (A 40) b) {z : Int32 × Int32 × Int32 × (Nat → Int32) × (Nat → Int32)} (e : z = F_X7_piles S A (nI d)) : RB z.1 z.2.1 z.2.2.1 z.2.2.2.2 (s_keep (rP o a) w (S 31, S 32, S 33, S 34) b) ∧ z.2.2.2.1 = plU S (A 38) d := by
  obtain ⟨⟨f1, f2, f3, f4, f5, f6, f7, f8⟩, g1, g2, g3, g4, g5, g6, g7⟩ := F
  obtain ⟨v, f', e1, hv, h1, h2⟩ := pl_eq S A (d := d) (by omega)
  obtain ⟨b1, b2, b3, b4, b5⟩ := hb
  have hv' : v.toInt = s_val (rP o a) (S 34) := by
    rw [hv, cg_worths (o := o) (a := a) (A := va_up A 38 (plU S (A 38) d)) f1 g1 g2 g3]
    exact va_eq hW
  have hk : s_keep (rP o a) w (S 31, S 32, S 33, S 34) b = if s_val (rP o a) (S 34) < b.1 ∨ (s_val (rP o a) (S 34) = b.1 ∧ b.2.2.length ≤ w.length) then b else (s_val (rP o a) (S 34), S 34, w) := rfl
  have hc0 : ¬ S 42 < 0 := by rw [b2]; exact nI_pos (by omega)
  have hc1 : v < S 41 ↔ s_val (rP o a) (S 34) < b.1 := by rw [Int32.lt_iff_toInt_lt, hv', b1]
  have hc2 : v = S 41 ↔ s_val (rP o a) (S 34) = b.1 := by rw [← Int32.toInt_inj, hv', b1]
  have hc3 : nI d < S 42 ↔ d < b.2.2.length := by rw [b2, nI_ltI (by omega) (by omega)]
  subst e
  rw [e1]
  by_cases q : s_val (rP o a) (S 34) < b.1 ∨ (s_val (rP o a) (S 34) = b.1 ∧ b.2.2.length ≤ w.length)
  · have c : ¬ (S 42 < 0 ∨ ¬ (v < S 41 ∨ (v = S 41 ∧ ¬ nI d < S 42))) := fun r => r.elim hc0 (fun r => r (by
      rw [hc1, hc2, hc3]
      rcases q with q | q
      · exact Or.inl q
      · exact Or.inr ⟨q.1, by omega⟩))
    rw [if_neg c, if_neg c, if_neg c, hk, if_pos q, h2 c]
    exact ⟨⟨b1, b2, b3, b4, b5⟩, rfl⟩
  · have c : S 42 < 0 ∨ ¬ (v < S 41 ∨ (v = S 41 ∧ ¬ nI d < S 42)) := Or.inr (by
      rw [hc1, hc2, hc3]
      exact fun r => q (r.elim Or.inl (fun r => Or.inr ⟨r.1, by omega⟩)))
    rw [if_pos c, if_pos c, if_pos c, hk, if_neg q]
    refine ⟨⟨hv', by rw [← hw], rfl, by show w.length ≤ 8; omega, ?_⟩, rfl⟩
    exact wAg.of hg (fun k hk => by show f' k = A 39 k; rw [h1 c k, if_pos (by have h9 : k < w.length := hk; omega)])
set_option maxHeartbeats 4000000 in
theorem rf_seg {o : Nat → Int32} {a : Nat → Nat → Int32} (hW : rOK o a) : ∀ (f m d : Nat) (w : List Int32) (s : SS) (b : SB) (nf : Nat) (f38 f39 f40 : Nat → Int32) (x31 x32 x33 x34 x35 x41 x42 x43 : Int32), unr s.2.2.2 (o 13).toInt.toNat < f + 1 → m ≤ 4 → w.length = d → unr s.2.2.2 (o 13).toInt.toNat + d ≤ 8 → pLv (o 35) f38 d s (4 - m) → wAg f39 w → RB x41 x42 x43 f40 b → fmI (o 13) f38 (nI d) → fmM f38 (nI d) < nf → ∃ (nf' : Nat) (g38 g39 g40 : Nat → Int32) (y31 y32 y33 y34 y35 y41 y42 y43 : Int32), F_X7_findMost_L13 o a nf f38 f39 f40 x31 x32 x33 x34 x35 x41 x42 x43 (nI d) = F_X7_findMost_L13 o a nf' g38 g39 g40 y31 y32 y33 y34 y35 y41 y42 y43 (nI d + (-1)) ∧ fmI (o 13) g38 (nI d + (-1)) ∧ fmM g38 (nI d + (-1)) < nf' ∧ (∀ j, j < 6 * d + 5 → g38 j = f38 j) ∧ (∀ k, k < d → g39 k = f39 k) ∧ RB y41 y42 y43 g40 (s_cols (rP o a) (s_walk (rP o a) f) w s m b) := by
  intro f
  induction f using Nat.strongRecOn with
  | ind f ihf =>
    intro m
    induction m with
    | zero =>
      intro d w s b nf f38 f39 f40 x31 x32 x33 x34 x35 x41 x42 x43 hu hm hw hd hp hg hb hI hM
      obtain ⟨p0, p1, p2, p3, p4, p5⟩ := hp
      match nf, hM with
      | nf + 1, hM =>
        have c2 : ¬ nI d < 0 := nI_pos (by omega)
        have h1 : -1 ≤ (nI d).toInt ∧ (nI d).toInt ≤ 8 := by rw [nI_toInt (by omega)]; omega
        have i5 : (6 * nI d + 5).toNatClampNeg = 6 * d + 5 := n6_k (x := 5) (k := 5) rfl (by omega) (by omega)
        have c7 : f38 (6 * nI d + 5).toNatClampNeg = 4 := by rw [i5, p5]; rfl
        have hpop := fm_pop c2 h1 hI hM rfl rfl rfl c7 rfl
        exact ⟨nf, f38, f39, f40, x31, x32, x33, x34, x35, x41, x42, x43, eX7_findMost_5 o a nf f38 f39 f40 x31 x32 x33 x34 x35 x41 x42 x43 (nI d) _ _ _ _ rfl rfl rfl rfl c2 c7, hpop.2.1, hpop.2.2, fun j _ => rfl, fun k _ => rfl, hb⟩
    | succ m ihm =>
      intro d w s b nf f38 f39 f40 x31 x32 x33 x34 x35 x41 x42 x43 hu hm hw hd hp hg hb hI hM
      obtain ⟨p0, p1, p2, p3, p4, p5⟩ := hp
      match nf, hM with
      | nf + 1, hM =>
        have h8 := hW.1
        have hm3 : 4 - (m + 1) = 3 - m := by omega
        rw [hm3] at p5
        have c2 : ¬ nI d < 0 := nI_pos (by omega)
        have h1 : -1 ≤ (nI d).toInt ∧ (nI d).toInt ≤ 8 := by rw [nI_toInt (by omega)]; omega
        obtain ⟨x4, e4⟩ : ∃ z, z = 6 * nI d := ⟨_, rfl⟩
        obtain ⟨x5, e5⟩ : ∃ z, z = x4 + 5 := ⟨_, rfl⟩
        obtain ⟨x6, e6⟩ : ∃ z, z = f38 x5.toNatClampNeg := ⟨_, rfl⟩
        obtain ⟨x8, e8⟩ : ∃ z, z = 6 * nI d := ⟨_, rfl⟩
        obtain ⟨x9, e9⟩ : ∃ z, z = x8 + 5 := ⟨_, rfl⟩
        obtain ⟨x10, e10⟩ : ∃ z, z = f38 x9.toNatClampNeg := ⟨_, rfl⟩
        obtain ⟨x11, e11⟩ : ∃ z, z = x10 + 1 := ⟨_, rfl⟩
        have i5 := fm_ix rfl (d := d) (by omega) e4 e5
        have i9 := fm_ix rfl (d := d) (by omega) e8 e9
        have h6 : x6 = nI (3 - m) := by rw [e6, i5, p5]
        have h11 : x11 = nI (4 - m) := by rw [e11, e10, i9, p5, nI_1, show 3 - m + 1 = 4 - m by omega]
        have c7 : ¬ x6 = 4 := by
          rw [h6]
          intro q
          have := (nI_eq (a := 3 - m) (b := 4) (by omega) (by omega)).mp q
          omega
        have hn1 := (fm_next c2 h1 hI hM e4 e5 e6 c7 e8 e9 e10 e11).1
        have hn2 := fm_nextM c2 h1 hI hM e4 e5 e6 c7 e8 e9 e10 e11
        have hA : ∀ j, j ≠ 6 * d + 5 → upd f38 x9.toNatClampNeg x11 j = f38 j := fun j hj => by rw [i9]; exact pk_un hj
        have hA5 : upd f38 x9.toNatClampNeg x11 (6 * d + 5) = nI (4 - m) := by rw [i9, pk_us, h11]
        have hLv : pLv (o 35) (upd f38 x9.toNatClampNeg x11) d s (4 - m) := ⟨by rw [hA _ (by omega)]; exact p0, by rw [hA _ (by omega)]; exact p1, by rw [hA _ (by omega)]; exact p2, by rw [hA _ (by omega)]; exact p3, by rw [hA _ (by omega)]; exact p4, hA5⟩
        obtain ⟨o12, e12⟩ : ∃ z, z = F_X7_unpiles (upd (upd (upd (upd (upd (upd (upd (upd o 31 x31) 32 x32) 33 x33) 34 x34) 35 x35) 41 x41) 42 x42) 43 x43) (va_up (va_up (va_up a 38 (upd f38 x9.toNatClampNeg x11)) 39 f39) 40 f40) (nI d) := ⟨_, rfl⟩
        obtain ⟨r13, e13⟩ : ∃ z, z = F_X7_firstIn (upd (upd (upd (upd (upd (upd (upd (upd o 31 o12.1) 32 o12.2.1) 33 o12.2.2.1) 34 o12.2.2.2.1) 35 o12.2.2.2.2) 41 x41) 42 x42) 43 x43) (va_up (va_up (va_up a 38 (upd f38 x9.toNatClampNeg x11)) 39 f39) 40 f40) x6 := ⟨_, rfl⟩
        have fr3 : fr7 o a (upd (upd (upd (upd (upd (upd (upd (upd o 31 o12.1) 32 o12.2.1) 33 o12.2.2.1) 34 o12.2.2.2.1) 35 o12.2.2.2.2) 41 x41) 42 x42) 43 x43) (va_up (va_up (va_up a 38 (upd f38 x9.toNatClampNeg x11)) 39 f39) 40 f40) := ⟨⟨rfl, rfl, rfl, rfl, rfl, rfl, rfl, rfl⟩, rfl, rfl, rfl, rfl, rfl, rfl, rfl⟩
        have h12 : o12 = (s.1, s.2.1, s.2.2.1, s.2.2.2, f38 (6 * d + 4)) := by
          rw [e12, upl_eq _ _ (by omega)]
          show (upd f38 x9.toNatClampNeg x11 (6 * d), upd f38 x9.toNatClampNeg x11 (6 * d + 1), upd f38 x9.toNatClampNeg x11 (6 * d + 2), upd f38 x9.toNatClampNeg x11 (6 * d + 3), upd f38 x9.toNatClampNeg x11 (6 * d + 4)) = _
          rw [hA _ (by omega), hA _ (by omega), hA _ (by omega), hA _ (by omega), hA _ (by omega), p0, p1, p2, p3]
        have h34 : o12.2.2.2.1 = s.2.2.2 := by rw [h12]
        have h35 : o12.2.2.2.2 = 1 ↔ o 35 = 1 := by rw [h12]; exact p4
        have h13 : r13 = eo (s_line (rP o a) s.2.2.2 (nI (3 - m))) := by
          rw [e13, rf_first hW.1 (S := (upd (upd (upd (upd (upd (upd (upd (upd o 31 o12.1) 32 o12.2.1) 33 o12.2.2.1) 34 o12.2.2.2.1) 35 o12.2.2.2.2) 41 x41) 42 x42) 43 x43)) h35 fr3, ← h34, ← h6]
          rfl
        cases hl : s_line (rP o a) s.2.2.2 (nI (3 - m)) with
        | none =>
          have c14 : ¬ 0 ≤ r13 := by rw [h13, hl]; decide
          have hst : s_one (rP o a) (s_walk (rP o a) f) w s (nI (3 - m)) b = b := by unfold s_one; rw [s_step_n hl]
          obtain ⟨nf', g38, g39, g40, y31, y32, y33, y34, y35, y41, y42, y43, q1, q2, q3, q4, q5, q6⟩ := ihm d w s b nf (upd f38 x9.toNatClampNeg x11) f39 f40 o12.1 o12.2.1 o12.2.2.1 o12.2.2.2.1 o12.2.2.2.2 x41 x42 x43 hu (by omega) hw hd hLv hg hb hn1 hn2
          refine ⟨nf', g38, g39, g40, y31, y32, y33, y34, y35, y41, y42, y43, (eX7_findMost_4 o a nf f38 f39 f40 x31 x32 x33 x34 x35 x41 x42 x43 (nI d) x4 x5 x6 x8 x9 x10 x11 o12 r13 e4 e5 e6 e8 e9 e10 e11 e12 e13 c2 c7 c14).trans q1, q2, q3, fun j hj => (q4 j hj).trans (hA j (by omega)), q5, ?_⟩
          show RB y41 y42 y43 g40 (s_cols (rP o a) (s_walk (rP o a) f) w s m (s_one (rP o a) (s_walk (rP o a) f) w s (nI (3 - m)) b))
          rw [hst]
          exact q6
        | some l =>
          have hl8 := (s_line_some hl).1
          have hr13 : r13 = nI l := by rw [h13, hl]; rfl
          have hl8' : l < (o 13).toInt.toNat := hl8
          have c14 : 0 ≤ r13 := by rw [hr13]; exact nI_pos' (by omega)
          obtain ⟨o15, e15⟩ : ∃ z, z = F_X7_reads (upd (upd (upd (upd (upd (upd (upd (upd o 31 o12.1) 32 o12.2.1) 33 o12.2.2.1) 34 o12.2.2.2.1) 35 o12.2.2.2.2) 41 x41) 42 x42) 43 x43) (va_up (va_up (va_up a 38 (upd f38 x9.toNatClampNeg x11)) 39 f39) 40 f40) r13 := ⟨_, rfl⟩
          have hs4 : (o12.1, o12.2.1, o12.2.2.1, o12.2.2.2.1) = s := by rw [h12]
          have hrd := rf_reads (l := l) fr3
          rw [show (((upd (upd (upd (upd (upd (upd (upd (upd o 31 o12.1) 32 o12.2.1) 33 o12.2.2.1) 34 o12.2.2.2.1) 35 o12.2.2.2.2) 41 x41) 42 x42) 43 x43) 31, (upd (upd (upd (upd (upd (upd (upd (upd o 31 o12.1) 32 o12.2.1) 33 o12.2.2.1) 34 o12.2.2.2.1) 35 o12.2.2.2.2) 41 x41) 42 x42) 43 x43) 32, (upd (upd (upd (upd (upd (upd (upd (upd o 31 o12.1) 32 o12.2.1) 33 o12.2.2.1) 34 o12.2.2.2.1) 35 o12.2.2.2.2) 41 x41) 42 x42) 43 x43) 33, (upd (upd (upd (upd (upd (upd (upd (upd o 31 o12.1) 32 o12.2.1) 33 o12.2.2.1) 34 o12.2.2.2.1) 35 o12.2.2.2.2) 41 x41) 42 x42) 43 x43) 34) : SS) = s from hs4, ← hr13, ← e15] at hrd
          cases hs : s_read (rP o a) l s with
          | none =>
            have c16 := hrd.2 hs
            have hst : s_one (rP o a) (s_walk (rP o a) f) w s (nI (3 - m)) b = b := by unfold s_one; rw [s_step_i hl, hs]
            obtain ⟨nf', g38, g39, g40, y31, y32, y33, y34, y35, y41, y42, y43, q1, q2, q3, q4, q5, q6⟩ := ihm d w s b nf (upd f38 x9.toNatClampNeg x11) f39 f40 o15.1 o15.2.1 o15.2.2.1 o15.2.2.2.1 o15.2.2.2.2 x41 x42 x43 hu (by omega) hw hd hLv hg hb hn1 hn2
            refine ⟨nf', g38, g39, g40, y31, y32, y33, y34, y35, y41, y42, y43, (eX7_findMost_3 o a nf f38 f39 f40 x31 x32 x33 x34 x35 x41 x42 x43 (nI d) x4 x5 x6 x8 x9 x10 x11 o12 r13 o15 e4 e5 e6 e8 e9 e10 e11 e12 e13 e15 c2 c7 c14 c16).trans q1, q2, q3, fun j hj => (q4 j hj).trans (hA j (by omega)), q5, ?_⟩
            show RB y41 y42 y43 g40 (s_cols (rP o a) (s_walk (rP o a) f) w s m (s_one (rP o a) (s_walk (rP o a) f) w s (nI (3 - m)) b))
            rw [hst]
            exact q6
          | some t =>
            have h15 : o15 = (t.1, t.2.1, t.2.2.1, t.2.2.2, o12.2.2.2.2) := hrd.1 t hs
            have hvv : pVis (rP o a) (nI (3 - m)) = (!decide (o 35 = 1) && !decide (F_X7_isShown o a (nI (3 - m)) (a 5 (o 30).toNatClampNeg) = 0)) := rfl
            have ho35 : ¬ o 35 = 1 := fun q => by
              have h9 := (s_line_some hl).2.1
              rw [hvv, decide_eq_true q, Bool.not_true, Bool.false_and] at h9
              exact absurd h9 (by decide)
            have c16 : ¬ o15.2.2.2.2 = 1 := by rw [h15]; exact fun q => ho35 (h35.mp q)
            have hstep : s_step (rP o a) (nI (3 - m)) s = some t := by rw [s_step_i hl, hs]
            have hst : s_one (rP o a) (s_walk (rP o a) f) w s (nI (3 - m)) b = s_walk (rP o a) f (w ++ [nI (3 - m)]) t (s_keep (rP o a) (w ++ [nI (3 - m)]) t b) := by unfold s_one; rw [hstep]
            have hut : unr t.2.2.2 (o 13).toInt.toNat + 1 = unr s.2.2.2 (o 13).toInt.toNat := (s_step_v hW.s hstep).2.2.2
            obtain ⟨x17, e17⟩ : ∃ z, z = nI d + 1 := ⟨_, rfl⟩
            obtain ⟨o18, e18⟩ : ∃ z, z = F_X7_piles (upd (upd (upd (upd (upd (upd (upd (upd o 31 o15.1) 32 o15.2.1) 33 o15.2.2.1) 34 o15.2.2.2.1) 35 o15.2.2.2.2) 41 x41) 42 x42) 43 x43) (va_up (va_up (va_up a 38 (upd f38 x9.toNatClampNeg x11)) 39 (upd f39 (nI d).toNatClampNeg x6)) 40 f40) x17 := ⟨_, rfl⟩
            have h17 : x17 = nI (d + 1) := by rw [e17, nI_1]
            have hpu := fm_push hW.1 c2 h1 hI hM e4 e5 e6 c7 e8 e9 e10 e11 e12 rfl e13 rfl rfl c14 e15 rfl c16 e17 e18 rfl rfl
            have fr5 : fr7 o a (upd (upd (upd (upd (upd (upd (upd (upd o 31 o15.1) 32 o15.2.1) 33 o15.2.2.1) 34 o15.2.2.2.1) 35 o15.2.2.2.2) 41 x41) 42 x42) 43 x43) (va_up (va_up (va_up a 38 (upd f38 x9.toNatClampNeg x11)) 39 (upd f39 (nI d).toNatClampNeg x6)) 40 f40) := ⟨⟨rfl, rfl, rfl, rfl, rfl, rfl, rfl, rfl⟩, rfl, rfl, rfl, rfl, rfl, rfl, rfl⟩
            have hwl : (w ++ [nI (3 - m)]).length = d + 1 := by rw [List.length_append, List.length_singleton, hw]
            have hg5 : wAg (upd f39 (nI d).toNatClampNeg x6) (w ++ [nI (3 - m)]) := by
              rw [nI_clamp (by omega)]
              exact wAg.app (hg.of (fun k hk => pk_un (by omega))) (by rw [hw, pk_us, h6])
            have hke := rf_keep hW fr5 (d := d + 1) (by omega) hwl (b := b) hg5 hb (e18.trans (by rw [h17]))
            have ht15 : (((upd (upd (upd (upd (upd (upd (upd (upd o 31 o15.1) 32 o15.2.1) 33 o15.2.2.1) 34 o15.2.2.2.1) 35 o15.2.2.2.2) 41 x41) 42 x42) 43 x43) 31, (upd (upd (upd (upd (upd (upd (upd (upd o 31 o15.1) 32 o15.2.1) 33 o15.2.2.1) 34 o15.2.2.2.1) 35 o15.2.2.2.2) 41 x41) 42 x42) 43 x43) 32, (upd (upd (upd (upd (upd (upd (upd (upd o 31 o15.1) 32 o15.2.1) 33 o15.2.2.1) 34 o15.2.2.2.1) 35 o15.2.2.2.2) 41 x41) 42 x42) 43 x43) 33, (upd (upd (upd (upd (upd (upd (upd (upd o 31 o15.1) 32 o15.2.1) 33 o15.2.2.1) 34 o15.2.2.2.1) 35 o15.2.2.2.2) 41 x41) 42 x42) 43 x43) 34) : SS) = t := by show (o15.1, o15.2.1, o15.2.2.1, o15.2.2.2.1) = t; rw [h15]
            rw [ht15] at hke
            obtain ⟨hRB, hpl⟩ := hke
            have hpl' : o18.2.2.2.1 = plU (upd (upd (upd (upd (upd (upd (upd (upd o 31 o15.1) 32 o15.2.1) 33 o15.2.2.1) 34 o15.2.2.2.1) 35 o15.2.2.2.2) 41 x41) 42 x42) 43 x43) (upd f38 x9.toNatClampNeg x11) (d + 1) := hpl
            have hlv5 : pLv (o 35) o18.2.2.2.1 (d + 1) t (4 - 4) := by
              rw [hpl']
              refine ⟨?_, ?_, ?_, ?_, ?_, ?_⟩
              · rw [plU_0]; show o15.1 = _; rw [h15]
              · rw [plU_1]; show o15.2.1 = _; rw [h15]
              · rw [plU_2]; show o15.2.2.1 = _; rw [h15]
              · rw [plU_3]; show o15.2.2.2.1 = _; rw [h15]
              · rw [plU_4]; exact ⟨fun q => absurd q c16, fun q => absurd q ho35⟩
              · rw [plU_5]; rfl
            obtain ⟨f', rfl⟩ : ∃ f', f = f' + 1 := ⟨f - 1, by omega⟩
            obtain ⟨nf1, k38, k39, k40, z31, z32, z33, z34, z35, z41, z42, z43, r1, r2, r3, r4, r5, r6⟩ := ihf f' (Nat.lt_succ_self f') 4 (d + 1) (w ++ [nI (3 - m)]) t (s_keep (rP o a) (w ++ [nI (3 - m)]) t b) nf o18.2.2.2.1 (upd f39 (nI d).toNatClampNeg x6) o18.2.2.2.2 o15.1 o15.2.1 o15.2.2.1 o15.2.2.2.1 o15.2.2.2.2 o18.1 o18.2.1 o18.2.2.1 (by omega) (by omega) hwl (by omega) hlv5 hg5 hRB (h17 ▸ hpu.2.1) (h17 ▸ hpu.2.2)
            rw [pk_m1 d] at r1 r2 r3
            have r4' : ∀ j, j < 6 * d + 6 → k38 j = upd f38 x9.toNatClampNeg x11 j := fun j hj => by
              rw [r4 j (by omega), hpl', plU_lo (by omega)]
            have r5' : ∀ k, k < d → k39 k = f39 k := fun k hk => by
              rw [r5 k (by omega), nI_clamp (by omega), pk_un (by omega)]
            obtain ⟨b0, b1, b2, b3, b4, b5⟩ := hLv
            obtain ⟨nf', g38, g39, g40, y31, y32, y33, y34, y35, y41, y42, y43, q1, q2, q3, q4, q5, q6⟩ := ihm d w s _ nf1 k38 k39 k40 z31 z32 z33 z34 z35 z41 z42 z43 hu (by omega) hw hd ⟨by rw [r4' _ (by omega)]; exact b0, by rw [r4' _ (by omega)]; exact b1, by rw [r4' _ (by omega)]; exact b2, by rw [r4' _ (by omega)]; exact b3, by rw [r4' _ (by omega)]; exact b4, by rw [r4' _ (by omega)]; exact b5⟩ (hg.of (fun k hk => r5' k (by omega))) r6 r2 r3
            refine ⟨nf', g38, g39, g40, y31, y32, y33, y34, y35, y41, y42, y43, ((eX7_findMost_2 o a nf f38 f39 f40 x31 x32 x33 x34 x35 x41 x42 x43 (nI d) x4 x5 x6 x8 x9 x10 x11 o12 r13 o15 x17 o18 e4 e5 e6 e8 e9 e10 e11 e12 e13 e15 e17 e18 c2 c7 c14 c16).trans (by rw [h17]; exact r1)).trans q1, q2, q3, fun j hj => ((q4 j hj).trans (r4' j (by omega))).trans (hA j (by omega)), fun k hk => (q5 k hk).trans (r5' k hk), ?_⟩
            show RB y41 y42 y43 g40 (s_cols (rP o a) (s_walk (rP o a) (f' + 1)) w s m (s_one (rP o a) (s_walk (rP o a) (f' + 1)) w s (nI (3 - m)) b))
            rw [hst]
            exact q6

/-- THE REFERENCE'S SEARCH: the worth, the length, what is read, the way of the walk's best -/
def s_most (P : SP) (s : SS) : SB := s_walk P 9 [] s (s_val P s.2.2.2, s.2.2.2, [])
theorem rf_most {o : Nat → Int32} {a : Nat → Nat → Int32} (hW : rOK o a)   : ∃ z, z = F_X7_findMost o a ∧ RB z.1 z.2.2.2.2.2.2.2.1 z.2.2.2.2.2.2.2.2.1 z.2.2.2.2.2.2.2.2.2.2.2 (s_most (rP o a) (o 31, o 32, o 33, o 34)) := by
  have h8 := hW.1
  obtain ⟨o1, e1⟩ : ∃ z, z = F_X7_piles (upd o 42 (-9)) a 0 := ⟨_, rfl⟩
  obtain ⟨v, f', p1, hv, hf1, -⟩ := pl_eq (upd o 42 (-9)) a (d := 0) (by omega)
  have c : (upd o 42 (-9)) 42 < 0 ∨ ¬ (v < (upd o 42 (-9)) 41 ∨ (v = (upd o 42 (-9)) 41 ∧ ¬ nI 0 < (upd o 42 (-9)) 42)) := Or.inl (by show (-9 : Int32) < 0; decide)
  rw [if_pos c, if_pos c, if_pos c] at p1
  have h1 : o1 = (v, nI 0, o 34, plU (upd o 42 (-9)) (a 38) 0, f') := by rw [e1]; exact p1
  have hv' : v.toInt = s_val (rP o a) (o 34) := by
    rw [hv]
    exact (congrArg Int32.toInt (cg_worths (o := o) (a := a) (S := upd o 42 (-9)) (A := va_up a 38 (plU (upd o 42 (-9)) (a 38) 0)) rfl rfl rfl rfl)).trans (va_eq hW)
  have hu := unr_le (o 34) (o 13).toInt.toNat (by omega)
  have hI := fm_init hW.1 e1
  obtain ⟨nf', g38, g39, g40, y31, y32, y33, y34, y35, y41, y42, y43, q1, q2, q3, q4, q5, q6⟩ := rf_seg hW 8 4 0 [] (o 31, o 32, o 33, o 34) (s_val (rP o a) (o 34), o 34, []) ((fmM o1.2.2.2.1 (0 : Int32)) + 1) o1.2.2.2.1 (a 39) o1.2.2.2.2 (o 31) (o 32) (o 33) (o 34) (o 35) o1.1 o1.2.1 o1.2.2.1 (by show unr (o 34) (o 13).toInt.toNat < 8 + 1; omega) (by omega) rfl (by show unr (o 34) (o 13).toInt.toNat + 0 ≤ 8; omega) (by
      rw [h1]
      refine ⟨?_, ?_, ?_, ?_, ?_, ?_⟩
      · exact (plU_0 (o := upd o 42 (-9)) (f := a 38) (d := 0))
      · exact (plU_1 (o := upd o 42 (-9)) (f := a 38) (d := 0))
      · exact (plU_2 (o := upd o 42 (-9)) (f := a 38) (d := 0))
      · exact (plU_3 (o := upd o 42 (-9)) (f := a 38) (d := 0))
      · show plU (upd o 42 (-9)) (a 38) 0 (6 * 0 + 4) = 1 ↔ o 35 = 1
        rw [plU_4]; exact Iff.rfl
      · exact (plU_5 (o := upd o 42 (-9)) (f := a 38) (d := 0))) (fun k hk => absurd hk (Nat.not_lt_zero _)) (by rw [h1]; exact ⟨hv', rfl, rfl, Nat.zero_le _, fun k hk => absurd hk (Nat.not_lt_zero _)⟩) hI (Nat.lt_succ_self _)
  match nf', q3 with
  | nf' + 1, q3 =>
    obtain ⟨z3, e3⟩ : ∃ z, z = F_X7_unpiles (upd (upd (upd (upd (upd (upd (upd (upd o 31 y31) 32 y32) 33 y33) 34 y34) 35 y35) 41 y41) 42 y42) 43 y43) (va_up (va_up (va_up a 38 g38) 39 g39) 40 g40) 0 := ⟨_, rfl⟩
    have hend := eX7_findMost_1 o a nf' g38 g39 g40 y31 y32 y33 y34 y35 y41 y42 y43 (nI 0 + (-1)) z3 e3 (by decide)
    have hall := ((eX7_findMost_6 o a o1 e1).trans q1).trans hend
    exact ⟨_, hall.symm, q6⟩
