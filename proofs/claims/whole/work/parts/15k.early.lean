/-! early -/
theorem rP_cg {S o : Nat → Int32} {A a : Nat → Nat → Int32} (F : fr7 o a S A) (h35 : S 35 = o 35) : rP S A = rP o a := by
  obtain ⟨⟨f13, f15, f16, f17, f18, f30, f36, f37⟩, ⟨a1, a2, a3, a4, a5, a6, a7⟩⟩ := F
  have e1 : (fun c => !decide (S 35 = 1) && !decide (F_X7_isShown S A c (A 5 (S 30).toNatClampNeg) = 0)) = fun c => !decide (o 35 = 1) && !decide (F_X7_isShown o a c (a 5 (o 30).toNatClampNeg) = 0) := by
    funext c
    rw [h35, a5, f30, cg_shown (S := S) (o := o) (A := A) (a := a) f15 f16 f18]
  have e2 : (fun l => F_X7_takesOf S A (nI l) (S 30)) = fun l => F_X7_takesOf o a (nI l) (o 30) := by
    funext l
    exact cg_takes (S := S) (o := o) a2 a3 a4 a6 f30
  have e3 : (fun sec nt => !decide (F_X7_turnsFor S A nt - S 36 < sec) && !decide (S 37 < sec)) = fun sec nt => !decide (F_X7_turnsFor o a nt - o 36 < sec) && !decide (o 37 < sec) := by
    funext sec nt
    rw [cg_turns (A := A) (a := a) f15 f16 f17, f36, f37]
  have e4 : (fun l => (F_X7_worthOf S A (nI l)).toInt) = fun l => (F_X7_worthOf o a (nI l)).toInt := by
    funext l
    rw [cg_worth (S := S) (o := o) a1 a2 a3]
  unfold rP
  rw [e1, e2, e3, e4, a1, f13, a7, f30]
theorem s_read_nt {P : SP} {l : Nat} {s t : SS} (h : s_read P l s = some t) : t.2.2.1 = s.2.2.1 ∨ t.2.2.1 = s.2.2.1 + 1 := by
  unfold s_read at h
  split at h
  · split at h
    · cases h; exact Or.inl rfl
    · cases h
  · split at h
    · cases h; exact Or.inr rfl
    · cases h
/-- more time, no less worth, as long as few are noticed -/
theorem s_mono2 {P P' : SP} (hP : sOK P) (h1 : P.1 = P'.1) (h2 : P.2.1 = P'.2.1) (h3 : P.2.2.1 = P'.2.2.1) (h4 : P.2.2.2.1 = P'.2.2.2.1) (h5 : P.2.2.2.2.1 = P'.2.2.2.2.1) (h6 : P.2.2.2.2.2.2 = P'.2.2.2.2.2.2) (ho : ∀ x y : Int32, 0 ≤ y.toInt → y.toInt ≤ 18 → pOk P x y = true → pOk P' x y = true) : ∀ (f : Nat) (s : SS), 0 ≤ s.2.2.1.toInt → s.2.2.1.toInt + unr s.2.2.2 (pN P) ≤ 17 → s_mx P f s ≤ s_mx P' f s := by
  obtain ⟨a1, a2, a3, a4, a5, a6, a7⟩ := P
  obtain ⟨b1, b2, b3, b4, b5, b6, b7⟩ := P'
  dsimp only at h1 h2 h3 h4 h5 h6
  subst h1 h2 h3 h4 h5 h6
  have hs : ∀ (c : Int32) (s t : SS), 0 ≤ s.2.2.1.toInt → s.2.2.1.toInt + unr s.2.2.2 (pN (a1, a2, a3, a4, a5, a6, a7)) ≤ 17 → s_step (a1, a2, a3, a4, a5, a6, a7) c s = some t → s_step (a1, a2, a3, a4, a5, b6, a7) c s = some t ∧ 0 ≤ t.2.2.1.toInt ∧ t.2.2.1.toInt + unr t.2.2.2 (pN (a1, a2, a3, a4, a5, a6, a7)) ≤ 17 := by
    intro c s t hs0 hs1 h
    have hv := (s_step_v hP h).2.2.2
    obtain ⟨l, g1, g2⟩ := s_step_some h
    have hnt := s_read_nt g2
    have e1 : (s.2.2.1 + 1).toInt = s.2.2.1.toInt + 1 := i_add rfl (by rw [show (1 : Int32).toInt = 1 from rfl]; omega) (by rw [show (1 : Int32).toInt = 1 from rfl]; omega)
    refine ⟨?_, ?_, ?_⟩
    · rw [s_step_i (l := l) (show s_line (a1, a2, a3, a4, a5, b6, a7) s.2.2.2 c = some l from g1)]
      unfold s_read at g2 ⊢
      by_cases c1 : s.2.1 + pTk (a1, a2, a3, a4, a5, a6, a7) l ≤ pNv (a1, a2, a3, a4, a5, a6, a7)
      · rw [if_pos c1] at g2
        rw [if_pos (show s.2.1 + pTk (a1, a2, a3, a4, a5, b6, a7) l ≤ pNv (a1, a2, a3, a4, a5, b6, a7) from c1)]
        by_cases c2 : pOk (a1, a2, a3, a4, a5, a6, a7) (s.1 + pTk (a1, a2, a3, a4, a5, a6, a7) l) s.2.2.1 = true
        · rw [if_pos c2] at g2
          rw [if_pos (show pOk (a1, a2, a3, a4, a5, b6, a7) (s.1 + pTk (a1, a2, a3, a4, a5, b6, a7) l) s.2.2.1 = true from ho _ _ hs0 (by omega) c2)]
          exact g2
        · rw [if_neg c2] at g2; cases g2
      · rw [if_neg c1] at g2
        rw [if_neg (show ¬ s.2.1 + pTk (a1, a2, a3, a4, a5, b6, a7) l ≤ pNv (a1, a2, a3, a4, a5, b6, a7) from c1)]
        by_cases c2 : pOk (a1, a2, a3, a4, a5, a6, a7) (s.1 + pTk (a1, a2, a3, a4, a5, a6, a7) l) (s.2.2.1 + 1) = true
        · rw [if_pos c2] at g2
          rw [if_pos (show pOk (a1, a2, a3, a4, a5, b6, a7) (s.1 + pTk (a1, a2, a3, a4, a5, b6, a7) l) (s.2.2.1 + 1) = true from ho _ _ (by omega) (by omega) c2)]
          exact g2
        · rw [if_neg c2] at g2; cases g2
    · rcases hnt with e | e
      · rw [e]; exact hs0
      · rw [e, e1]; omega
    · rcases hnt with e | e
      · rw [e]; omega
      · rw [e, e1]; omega
  intro f
  induction f with
  | zero => intro s _ _; exact Int.le_refl _
  | succ f ih =>
    intro s hs0 hs1
    show s_mxc _ _ s 4 ≤ s_mxc _ _ s 4
    generalize 4 = m
    induction m with
    | zero => exact Int.le_refl _
    | succ m ihm =>
      show max (s_mxc _ _ s m) _ ≤ max (s_mxc _ _ s m) _
      have h0 : s_val (a1, a2, a3, a4, a5, a6, a7) s.2.2.2 ≤ s_mxc (a1, a2, a3, a4, a5, b6, a7) (s_mx (a1, a2, a3, a4, a5, b6, a7) f) s m := s_mxc_0 (P := (a1, a2, a3, a4, a5, b6, a7)) m
      cases e : s_step (a1, a2, a3, a4, a5, a6, a7) (nI (3 - m)) s with
      | none =>
        refine Int.max_le.mpr ⟨Int.le_trans ihm (Int.le_max_left _ _), Int.le_trans h0 (Int.le_max_left _ _)⟩
      | some t =>
        obtain ⟨k1, k2, k3⟩ := hs _ _ _ hs0 hs1 e
        rw [k1]
        exact Int.max_le.mpr ⟨Int.le_trans ihm (Int.le_max_left _ _), Int.le_trans (ih t k2 k3) (Int.le_max_right _ _)⟩
theorem tn_mono {o : Nat → Int32} {a : Nat → Nat → Int32} {x x' y : Int32} (h16 : 0 ≤ (o 16).toInt ∧ (o 16).toInt ≤ 9) (hx : 10 ≤ x.toInt ∧ x.toInt ≤ x'.toInt ∧ x'.toInt ≤ 99) (hy : 0 ≤ y.toInt ∧ y.toInt ≤ 18) : (F_X7_turnsFor (upd o 17 x) a y).toInt ≤ (F_X7_turnsFor (upd o 17 x') a y).toInt := by
  have e3 := i_mul3 (x := o 16) (by omega) (by omega)
  have e5 := i_mul5 (x := y) (by omega) (by omega)
  have e4 := i_mulm4 (x := y) (by omega) (by omega)
  have key : ∀ v v' : Int32, v.toInt ≤ v'.toInt → (if 0 ≤ v then v else 0).toInt ≤ (if 0 ≤ v' then v' else 0).toInt := by
    intro v v' hv
    by_cases c : 0 ≤ v
    · have c1 := i_le c
      rw [show (0 : Int32).toInt = 0 from rfl] at c1
      rw [if_pos c, if_pos (show 0 ≤ v' by rw [Int32.le_iff_toInt_le, show (0 : Int32).toInt = 0 from rfl]; omega)]
      exact hv
    · rw [if_neg c]
      by_cases c' : 0 ≤ v'
      · rw [if_pos c']; exact i_le c'
      · rw [if_neg c']; exact Int.le_refl _
  have e6 : (3 * o 16 + 5 * y).toInt = 3 * (o 16).toInt + 5 * y.toInt := (i_add rfl (by omega) (by omega)).trans (by rw [e3, e5])
  have e7 : (4 * y + o 16).toInt = 4 * y.toInt + (o 16).toInt := (i_add rfl (by omega) (by omega)).trans (by rw [e4])
  show (if o 15 = 1 then (if 0 ≤ x + 3 * o 16 then x + 3 * o 16 else 0) else if o 15 = 2 then (if 0 ≤ x + (3 * o 16 + 5 * y) then x + (3 * o 16 + 5 * y) else 0) else if o 15 = 3 then (if 0 ≤ x - 4 * y then x - 4 * y else 0) else if o 15 = 4 then (if 0 ≤ x - (4 * y + o 16) then x - (4 * y + o 16) else 0) else if 0 ≤ x then x else 0).toInt ≤ (if o 15 = 1 then (if 0 ≤ x' + 3 * o 16 then x' + 3 * o 16 else 0) else if o 15 = 2 then (if 0 ≤ x' + (3 * o 16 + 5 * y) then x' + (3 * o 16 + 5 * y) else 0) else if o 15 = 3 then (if 0 ≤ x' - 4 * y then x' - 4 * y else 0) else if o 15 = 4 then (if 0 ≤ x' - (4 * y + o 16) then x' - (4 * y + o 16) else 0) else if 0 ≤ x' then x' else 0).toInt
  by_cases c1 : o 15 = 1
  · rw [if_pos c1, if_pos c1]
    refine key _ _ ?_
    rw [i_add (x := x + 3 * o 16) rfl (by omega) (by omega), i_add (x := x' + 3 * o 16) rfl (by omega) (by omega)]; omega
  · rw [if_neg c1, if_neg c1]
    by_cases c2 : o 15 = 2
    · rw [if_pos c2, if_pos c2]
      refine key _ _ ?_
      rw [i_add (x := x + (3 * o 16 + 5 * y)) rfl (by omega) (by omega), i_add (x := x' + (3 * o 16 + 5 * y)) rfl (by omega) (by omega)]; omega
    · rw [if_neg c2, if_neg c2]
      by_cases c3 : o 15 = 3
      · rw [if_pos c3, if_pos c3]
        refine key _ _ ?_
        rw [i_sub (x := x - 4 * y) rfl (by omega) (by omega), i_sub (x := x' - 4 * y) rfl (by omega) (by omega)]; omega
      · rw [if_neg c3, if_neg c3]
        by_cases c4 : o 15 = 4
        · rw [if_pos c4, if_pos c4]
          refine key _ _ ?_
          rw [i_sub (x := x - (4 * y + o 16)) rfl (by omega) (by omega), i_sub (x := x' - (4 * y + o 16)) rfl (by omega) (by omega)]; omega
        · rw [if_neg c4, if_neg c4]
          exact key _ _ hx.2.1
/-- the most of a looker, the base being x -/
noncomputable def vl (o : Nat → Int32) (a : Nat → Nat → Int32) (x : Int32) (k : Nat) : Int := s_mx (rP (mS (upd o 17 x) k (a 8 k, a 9 k, a 10 k, a 11 k, a 12 k)) a) 9 (a 8 k, a 9 k, a 10 k, a 11 k)
theorem WR.val {q : Nat → Nat → Int32} {n : Int32} {g : Nat → Int32} {nC : Int32} {L : Nat → Nat → Int32} {o : Nat → Int32} {a : Nat → Nat → Int32} (W : WR q n g nC L o a) {k : Nat} (hk : (k : Int) < (o 14).toInt) (bR : Nat → Nat → Int32) (cR : Nat → Int32) {G : Int32 × Int32 × Int32 × Int32 × Int32 × Int32 × Int32 × Int32 × Int32 × (Nat → Int32) × (Nat → Int32) × (Nat → Int32)} (eG : G = F_X7_findMost (mS o k (a 8 k, a 9 k, a 10 k, a 11 k, a 12 k)) a) : G.1 = (F_X4_greatest bR cR q n g (L k) 1000000).1 ∧ G.1.toInt = s_mx (rP (mS o k (a 8 k, a 9 k, a 10 k, a 11 k, a 12 k)) a) 9 (a 8 k, a 9 k, a 10 k, a 11 k) := by
  obtain ⟨b, e, b2, b3, b4, b5, b6, b7⟩ := mo_gen (S := mS o k (a 8 k, a 9 k, a 10 k, a 11 k, a 12 k)) (f := L k) W.1.1 W.1.2.1.1 W.1.2.1.2 W.2.1 hk rfl (W.1.2.2.2 k hk) (dM_of (W.2.1.2.2.2.2 k hk)) (mo_hO (S := mS o k (a 8 k, a 9 k, a 10 k, a 11 k, a 12 k)) W.2.1 (dM_of (W.2.1.2.2.2.2 k hk)) W.2.2.1 W.2.2.2) bR cR
  subst eG
  refine ⟨b6, ?_⟩
  rw [b6, b4, e]
  have h := s_walk_1 (P := rP (mS o k (a 8 k, a 9 k, a 10 k, a 11 k, a 12 k)) a) 9 [] (a 8 k, a 9 k, a 10 k, a 11 k) (s_val (rP (mS o k (a 8 k, a 9 k, a 10 k, a 11 k, a 12 k)) a) (a 11 k), a 11 k, []) (Int.le_refl _)
  have h0 := s_mx_0 (P := rP (mS o k (a 8 k, a 9 k, a 10 k, a 11 k, a 12 k)) a) (f := 9) (s := (a 8 k, a 9 k, a 10 k, a 11 k))
  refine h.trans ?_
  exact Int.max_eq_right h0
theorem rP_1 (o : Nat → Int32) (a : Nat → Nat → Int32) : (rP o a).1 = a 1 := rfl
theorem rP_2 (o : Nat → Int32) (a : Nat → Nat → Int32) : (rP o a).2.1 = (o 13).toInt.toNat := rfl
theorem rP_3 (o : Nat → Int32) (a : Nat → Nat → Int32) : (rP o a).2.2.1 = fun c => !decide (o 35 = 1) && !decide (F_X7_isShown o a c (a 5 (o 30).toNatClampNeg) = 0) := rfl
theorem rP_4 (o : Nat → Int32) (a : Nat → Nat → Int32) : (rP o a).2.2.2.1 = fun l => F_X7_takesOf o a (nI l) (o 30) := rfl
theorem rP_5 (o : Nat → Int32) (a : Nat → Nat → Int32) : (rP o a).2.2.2.2.1 = a 7 (o 30).toNatClampNeg := rfl
theorem rP_7 (o : Nat → Int32) (a : Nat → Nat → Int32) : (rP o a).2.2.2.2.2.2 = fun l => (F_X7_worthOf o a (nI l)).toInt := rfl
theorem vl_mono {q : Nat → Nat → Int32} {n : Int32} {g : Nat → Int32} {nC : Int32} {L : Nat → Nat → Int32} {o : Nat → Int32} {a : Nat → Nat → Int32} (W : WR q n g nC L o a) {k : Nat} (hk : (k : Int) < (o 14).toInt) {x x' : Int32} (hx : 10 ≤ x.toInt ∧ x.toInt ≤ x'.toInt ∧ x'.toInt ≤ 99) : vl o a x k ≤ vl o a x' k := by
  have hd := W.2.1.2.2.2.2 k hk
  have h8 := W.2.1.1
  have D : ∀ x : Int32, 10 ≤ x.toInt → x.toInt ≤ 99 → DR (mS (upd o 17 x) k (a 8 k, a 9 k, a 10 k, a 11 k, a 12 k)) a := fun x h1 h2 => ⟨W.2.1.1, W.2.1.2.1, W.2.1.2.2.1, ⟨W.2.1.2.2.2.1.1, ⟨h1, h2⟩, W.2.1.2.2.2.1.2.2⟩, W.2.1.2.2.2.2⟩
  have e4 : (fun l => (F_X7_worthOf (mS (upd o 17 x) k (a 8 k, a 9 k, a 10 k, a 11 k, a 12 k)) a (nI l)).toInt) = fun l => (F_X7_worthOf (mS (upd o 17 x') k (a 8 k, a 9 k, a 10 k, a 11 k, a 12 k)) a (nI l)).toInt := by
    funext l
    rw [cg_worth (S := mS (upd o 17 x) k (a 8 k, a 9 k, a 10 k, a 11 k, a 12 k)) (o := mS (upd o 17 x') k (a 8 k, a 9 k, a 10 k, a 11 k, a 12 k)) (A := a) (a := a) rfl rfl rfl]
  have h10 : 0 ≤ (a 10 k).toInt ∧ (a 10 k).toInt ≤ 9 := by
    have h1 := hd.2.1
    have h2 : (a 12 k).toInt ≤ 1 := by rcases hd.2.2.2.1 with e | e <;> rw [e] <;> decide
    omega
  have e3 : (fun c => !decide ((mS (upd o 17 x) k (a 8 k, a 9 k, a 10 k, a 11 k, a 12 k)) 35 = 1) && !decide (F_X7_isShown (mS (upd o 17 x) k (a 8 k, a 9 k, a 10 k, a 11 k, a 12 k)) a c (a 5 ((mS (upd o 17 x) k (a 8 k, a 9 k, a 10 k, a 11 k, a 12 k)) 30).toNatClampNeg) = 0)) = fun c => !decide ((mS (upd o 17 x') k (a 8 k, a 9 k, a 10 k, a 11 k, a 12 k)) 35 = 1) && !decide (F_X7_isShown (mS (upd o 17 x') k (a 8 k, a 9 k, a 10 k, a 11 k, a 12 k)) a c (a 5 ((mS (upd o 17 x') k (a 8 k, a 9 k, a 10 k, a 11 k, a 12 k)) 30).toNatClampNeg) = 0) := by
    funext c
    rw [cg_shown (S := mS (upd o 17 x) k (a 8 k, a 9 k, a 10 k, a 11 k, a 12 k)) (o := mS (upd o 17 x') k (a 8 k, a 9 k, a 10 k, a 11 k, a 12 k)) (A := a) (a := a) rfl rfl rfl]
    rfl
  have e2 : (fun l => F_X7_takesOf (mS (upd o 17 x) k (a 8 k, a 9 k, a 10 k, a 11 k, a 12 k)) a (nI l) ((mS (upd o 17 x) k (a 8 k, a 9 k, a 10 k, a 11 k, a 12 k)) 30)) = fun l => F_X7_takesOf (mS (upd o 17 x') k (a 8 k, a 9 k, a 10 k, a 11 k, a 12 k)) a (nI l) ((mS (upd o 17 x') k (a 8 k, a 9 k, a 10 k, a 11 k, a 12 k)) 30) := by
    funext l
    exact cg_takes (S := mS (upd o 17 x) k (a 8 k, a 9 k, a 10 k, a 11 k, a 12 k)) (o := mS (upd o 17 x') k (a 8 k, a 9 k, a 10 k, a 11 k, a 12 k)) rfl rfl rfl rfl rfl
  refine s_mono2 (P := rP (mS (upd o 17 x) k (a 8 k, a 9 k, a 10 k, a 11 k, a 12 k)) a) (P' := rP (mS (upd o 17 x') k (a 8 k, a 9 k, a 10 k, a 11 k, a 12 k)) a) (DR.ok (D x hx.1 (by omega))).s ((rP_1 (mS (upd o 17 x) k (a 8 k, a 9 k, a 10 k, a 11 k, a 12 k)) a).trans (rP_1 (mS (upd o 17 x') k (a 8 k, a 9 k, a 10 k, a 11 k, a 12 k)) a).symm) ((rP_2 (mS (upd o 17 x) k (a 8 k, a 9 k, a 10 k, a 11 k, a 12 k)) a).trans (rP_2 (mS (upd o 17 x') k (a 8 k, a 9 k, a 10 k, a 11 k, a 12 k)) a).symm) ((rP_3 (mS (upd o 17 x) k (a 8 k, a 9 k, a 10 k, a 11 k, a 12 k)) a).trans (e3.trans (rP_3 (mS (upd o 17 x') k (a 8 k, a 9 k, a 10 k, a 11 k, a 12 k)) a).symm)) ((rP_4 (mS (upd o 17 x) k (a 8 k, a 9 k, a 10 k, a 11 k, a 12 k)) a).trans (e2.trans (rP_4 (mS (upd o 17 x') k (a 8 k, a 9 k, a 10 k, a 11 k, a 12 k)) a).symm)) ((rP_5 (mS (upd o 17 x) k (a 8 k, a 9 k, a 10 k, a 11 k, a 12 k)) a).trans (rP_5 (mS (upd o 17 x') k (a 8 k, a 9 k, a 10 k, a 11 k, a 12 k)) a).symm) ((rP_7 (mS (upd o 17 x) k (a 8 k, a 9 k, a 10 k, a 11 k, a 12 k)) a).trans (e4.trans (rP_7 (mS (upd o 17 x') k (a 8 k, a 9 k, a 10 k, a 11 k, a 12 k)) a).symm)) ?_ 9 _ h10.1 ?_
  · intro s y hy0 hy1 h
    have t1 : F_X7_turnsFor (mS (upd o 17 x) k (a 8 k, a 9 k, a 10 k, a 11 k, a 12 k)) a y = F_X7_turnsFor (upd o 17 x) a y := cg_turns (S := mS (upd o 17 x) k (a 8 k, a 9 k, a 10 k, a 11 k, a 12 k)) (o := upd o 17 x) (A := a) (a := a) rfl rfl rfl
    have t2 : F_X7_turnsFor (mS (upd o 17 x') k (a 8 k, a 9 k, a 10 k, a 11 k, a 12 k)) a y = F_X7_turnsFor (upd o 17 x') a y := cg_turns (S := mS (upd o 17 x') k (a 8 k, a 9 k, a 10 k, a 11 k, a 12 k)) (o := upd o 17 x') (A := a) (a := a) rfl rfl rfl
    have u1 : (mS (upd o 17 x) k (a 8 k, a 9 k, a 10 k, a 11 k, a 12 k)) 36 = o 36 := rfl
    have u2 : (mS (upd o 17 x') k (a 8 k, a 9 k, a 10 k, a 11 k, a 12 k)) 36 = o 36 := rfl
    have u3 : (mS (upd o 17 x) k (a 8 k, a 9 k, a 10 k, a 11 k, a 12 k)) 37 = o 37 := rfl
    have u4 : (mS (upd o 17 x') k (a 8 k, a 9 k, a 10 k, a 11 k, a 12 k)) 37 = o 37 := rfl
    have hm := tn_mono (a := a) W.2.1.2.2.2.1.1 hx ⟨hy0, hy1⟩
    unfold pOk rP at h ⊢
    dsimp only at h ⊢
    rw [t1, u1, u3, W.2.2.1, Int32.sub_zero] at h
    rw [t2, u2, u4, W.2.2.1, Int32.sub_zero]
    generalize F_X7_turnsFor (upd o 17 x) a y = T1 at *
    generalize F_X7_turnsFor (upd o 17 x') a y = T2 at *
    have h' := h
    by_cases c : T1 < s
    · rw [decide_eq_true c] at h'; exact absurd h' (by simp)
    · rw [decide_eq_false c] at h'
      rw [decide_eq_false (show ¬ T2 < s by rw [Int32.lt_iff_toInt_lt] at c ⊢; omega)]
      exact h'
  · have h1 : pN (rP (mS (upd o 17 x) k (a 8 k, a 9 k, a 10 k, a 11 k, a 12 k)) a) = (o 13).toInt.toNat := rfl
    have h2 := unr_le (a 11 k) (o 13).toInt.toNat (by omega)
    rw [h1]
    show (a 10 k).toInt + unr (a 11 k) (o 13).toInt.toNat ≤ 17
    omega
theorem fr_17 {o : Nat → Int32} {a : Nat → Nat → Int32} {x : Int32} {k : Nat} (x38 x39 x40 : Nat → Int32) (x30 x31 x32 x33 x34 x35 x41 x42 x43 : Int32) : rP (mS (upd (upd (upd (upd (upd (upd (upd (upd (upd (upd o 17 x) 30 x30) 31 x31) 32 x32) 33 x33) 34 x34) 35 x35) 41 x41) 42 x42) 43 x43) k (a 8 k, a 9 k, a 10 k, a 11 k, a 12 k)) (va_up (va_up (va_up a 38 x38) 39 x39) 40 x40) = rP (mS (upd o 17 x) k (a 8 k, a 9 k, a 10 k, a 11 k, a 12 k)) a := rP_cg (S := mS (upd (upd (upd (upd (upd (upd (upd (upd (upd (upd o 17 x) 30 x30) 31 x31) 32 x32) 33 x33) 34 x34) 35 x35) 41 x41) 42 x42) 43 x43) k (a 8 k, a 9 k, a 10 k, a 11 k, a 12 k)) (A := (va_up (va_up (va_up a 38 x38) 39 x39) 40 x40)) (o := mS (upd o 17 x) k (a 8 k, a 9 k, a 10 k, a 11 k, a 12 k)) (a := a) ⟨⟨rfl, rfl, rfl, rfl, rfl, rfl, rfl, rfl⟩, ⟨rfl, rfl, rfl, rfl, rfl, rfl, rfl⟩⟩ rfl
theorem nb_L {q : Nat → Nat → Int32} {n : Int32} {g : Nat → Int32} {nC : Int32} {LP : Nat → Nat → Int32} {o : Nat → Int32} {a : Nat → Nat → Int32} {x p0 : Int32} {N : Nat} (W : WR q n g nC LP (upd o 17 x) a) {o' : Nat → Int32} {a' : Nat → Nat → Int32} {y30 y31 y32 y33 y34 y35 y41 y42 y43 : Int32} {y38 y39 y40 : Nat → Int32} (eo : o' = (upd (upd (upd (upd (upd (upd (upd (upd (upd (upd o 17 x) 30 y30) 31 y31) 32 y32) 33 y33) 34 y34) 35 y35) 41 y41) 42 y42) 43 y43)) (ea : a' = (va_up (va_up (va_up a 38 y38) 39 y39) 40 y40)) (hN : (o 14).toInt = N) : ∀ (m i : Nat), i + m = N → ∀ (f : Nat) (x38 x39 x40 : Nat → Int32) (x30 x31 x32 x33 x34 x35 x41 x42 x43 : Int32), m < f → ((F_X7_isNobodyAbove_L2 o' a' p0 f x38 x39 x40 x30 x31 x32 x33 x34 x35 x41 x42 x43 (nI i)).1 = 1 ∧ ∀ j, i ≤ j → j < N → vl o a x j ≤ p0.toInt) ∨ ((F_X7_isNobodyAbove_L2 o' a' p0 f x38 x39 x40 x30 x31 x32 x33 x34 x35 x41 x42 x43 (nI i)).1 = 0 ∧ ∃ j, i ≤ j ∧ j < N ∧ ¬ vl o a x j ≤ p0.toInt) := by
  have h4 : 0 ≤ (o 14).toInt ∧ (o 14).toInt ≤ 4 := W.2.1.2.1
  have ho14 : o' 14 = o 14 := by rw [eo]; rfl
  intro m
  induction m with
  | zero =>
    intro i hi f x38 x39 x40 x30 x31 x32 x33 x34 x35 x41 x42 x43 hf
    match f, hf with
    | f + 1, _ =>
      rw [F_X7_isNobodyAbove_L2, if_pos (show o' 14 ≤ nI i by rw [ho14, Int32.le_iff_toInt_le, nI_toInt (by omega)]; omega)]
      exact Or.inl ⟨rfl, fun j h1 h2 => by omega⟩
  | succ m ih =>
    intro i hi f x38 x39 x40 x30 x31 x32 x33 x34 x35 x41 x42 x43 hf
    match f, hf with
    | f + 1, hf =>
      obtain ⟨G, eG⟩ : ∃ G, G = F_X7_findMost (mS (upd (upd (upd (upd (upd (upd (upd (upd (upd o' 30 x30) 31 x31) 32 x32) 33 x33) 34 x34) 35 x35) 41 x41) 42 x42) 43 x43) i ((va_up (va_up (va_up a' 38 x38) 39 x39) 40 x40) 8 i, (va_up (va_up (va_up a' 38 x38) 39 x39) 40 x40) 9 i, (va_up (va_up (va_up a' 38 x38) 39 x39) 40 x40) 10 i, (va_up (va_up (va_up a' 38 x38) 39 x39) 40 x40) 11 i, (va_up (va_up (va_up a' 38 x38) 39 x39) 40 x40) 12 i)) (va_up (va_up (va_up a' 38 x38) 39 x39) 40 x40) := ⟨_, rfl⟩
      have hW2 : WR q n g nC LP (upd (upd (upd (upd (upd (upd (upd (upd (upd o' 30 x30) 31 x31) 32 x32) 33 x33) 34 x34) 35 x35) 41 x41) 42 x42) 43 x43) (va_up (va_up (va_up a' 38 x38) 39 x39) 40 x40) := by rw [eo, ea]; exact (W.scr y38 y39 y40 y30 y31 y32 y33 y34 y35 y41 y42 y43).scr x38 x39 x40 x30 x31 x32 x33 x34 x35 x41 x42 x43
      obtain ⟨-, g2⟩ := hW2.val (k := i) (by show (i : Int) < (o' 14).toInt; rw [ho14]; omega) (fun _ _ => 0) (fun _ => 0) eG
      have hval : G.1.toInt = vl o a x i := by
        rw [g2, eo, ea]
        unfold vl
        exact congrArg (fun P => s_mx P 9 (a 8 i, a 9 i, a 10 i, a 11 i)) (rP_cg ⟨⟨rfl, rfl, rfl, rfl, rfl, rfl, rfl, rfl⟩, ⟨rfl, rfl, rfl, rfl, rfl, rfl, rfl⟩⟩ rfl)
      have e1 : F_X7_isNobodyAbove_L2 o' a' p0 (f + 1) x38 x39 x40 x30 x31 x32 x33 x34 x35 x41 x42 x43 (nI i) = if G.1 ≤ p0 then F_X7_isNobodyAbove_L2 o' a' p0 f G.2.2.2.2.2.2.2.2.2.1 G.2.2.2.2.2.2.2.2.2.2.1 G.2.2.2.2.2.2.2.2.2.2.2 (nI i) G.2.1 G.2.2.1 G.2.2.2.1 G.2.2.2.2.1 G.2.2.2.2.2.1 G.2.2.2.2.2.2.1 G.2.2.2.2.2.2.2.1 G.2.2.2.2.2.2.2.2.1 (nI (i + 1)) else (0, nI i, G.2.1, G.2.2.1, G.2.2.2.1, G.2.2.2.2.1, G.2.2.2.2.2.1, G.2.2.2.2.2.2.1, G.2.2.2.2.2.2.2.1, G.2.2.2.2.2.2.2.2.1, G.2.2.2.2.2.2.2.2.2.1, G.2.2.2.2.2.2.2.2.2.2.1, G.2.2.2.2.2.2.2.2.2.2.2) := by
        rw [F_X7_isNobodyAbove_L2, if_neg (show ¬ o' 14 ≤ nI i by rw [ho14, Int32.le_iff_toInt_le, nI_toInt (by omega)]; omega)]
        dsimp only
        rw [mf_eq (by omega) eG, nI_1]
      rw [e1]
      by_cases c : G.1 ≤ p0
      · rw [if_pos c]
        have c' := i_le c
        rw [hval] at c'
        rcases ih (i + 1) (by omega) f _ _ _ _ _ _ _ _ _ _ _ _ (by omega) with ⟨h1, h2⟩ | ⟨h1, j, h2, h3, h5⟩
        · exact Or.inl ⟨h1, fun j h5 h6 => by
            by_cases e : j = i
            · rw [e]; exact c'
            · exact h2 j (by omega) h6⟩
        · exact Or.inr ⟨h1, j, by omega, h3, h5⟩
      · rw [if_neg c]
        have c' := i_nle c
        rw [hval] at c'
        exact Or.inr ⟨rfl, i, Nat.le_refl i, by omega, by omega⟩
theorem sa_L {M : Nat → Int32} {wW : Nat → Nat} {q : Nat → Nat → Int32} {n : Int32} {gB gT0 g1 : Nat → Int32} {b0 : Nat → Nat → Int32} {c0 : Nat → Int32} {nC : Int32} {LP : Nat → Nat → Int32} {o : Nat → Int32} {a : Nat → Nat → Int32} {x p0 : Int32} {N : Nat} (W : WR q n (upd g1 2 x) nC LP (upd o 17 x) a) (hN : (o 14).toInt = N) : ∀ (m i : Nat), i + m = N → ∀ (f : Nat) (b : Nat → Nat → Int32) (c : Nat → Int32), m < f → (F_X6_someoneAbove_L24 M nC wW q n gB b0 c0 gT0 LP p0 x g1 f b c (nI i)).2.2.2 = upd g1 2 x ∧ (((F_X6_someoneAbove_L24 M nC wW q n gB b0 c0 gT0 LP p0 x g1 f b c (nI i)).1 = 0 ∧ ∀ j, i ≤ j → j < N → vl o a x j ≤ p0.toInt) ∨ ((F_X6_someoneAbove_L24 M nC wW q n gB b0 c0 gT0 LP p0 x g1 f b c (nI i)).1 = 1 ∧ ∃ j, i ≤ j ∧ j < N ∧ ¬ vl o a x j ≤ p0.toInt)) := by
  have h4 : 0 ≤ (o 14).toInt ∧ (o 14).toInt ≤ 4 := W.2.1.2.1
  have hnC : nC = o 14 := W.1.2.2.1
  intro m
  induction m with
  | zero =>
    intro i hi f b c hf
    match f, hf with
    | f + 1, _ =>
      rw [F_X6_someoneAbove_L24, if_pos (show nC ≤ nI i by rw [hnC, Int32.le_iff_toInt_le, nI_toInt (by omega)]; omega)]
      exact ⟨rfl, Or.inl ⟨rfl, fun j h1 h2 => by omega⟩⟩
  | succ m ih =>
    intro i hi f b c hf
    match f, hf with
    | f + 1, hf =>
      obtain ⟨G, eG⟩ : ∃ G, G = F_X7_findMost (mS (upd o 17 x) i (a 8 i, a 9 i, a 10 i, a 11 i, a 12 i)) a := ⟨_, rfl⟩
      obtain ⟨g1', g2⟩ := W.val (k := i) (by show (i : Int) < (o 14).toInt; omega) b c eG
      obtain ⟨Z, eZ⟩ : ∃ Z, Z = F_X4_greatest b c q n (upd g1 2 x) (LP i) 1000000 := ⟨_, rfl⟩
      rw [← eZ] at g1'
      have hval : Z.1.toInt = vl o a x i := by rw [← g1']; exact g2
      have e1 : F_X6_someoneAbove_L24 M nC wW q n gB b0 c0 gT0 LP p0 x g1 (f + 1) b c (nI i) = if Z.1 ≤ p0 then F_X6_someoneAbove_L24 M nC wW q n gB b0 c0 gT0 LP p0 x g1 f Z.2.1 Z.2.2 (nI (i + 1)) else (1, Z.2.1, Z.2.2, upd g1 2 x) := by
        rw [F_X6_someoneAbove_L24, if_neg (show ¬ nC ≤ nI i by rw [hnC, Int32.le_iff_toInt_le, nI_toInt (by omega)]; omega), if_pos (wk_t (N := N) (by rw [hnC]; exact hN) (by omega) (by omega))]
        dsimp only
        rw [nI_clamp (by omega), nI_1, ← eZ]
      rw [e1]
      by_cases d : Z.1 ≤ p0
      · rw [if_pos d]
        have c' := i_le d
        rw [hval] at c'
        obtain ⟨h0, hr⟩ := ih (i + 1) (by omega) f Z.2.1 Z.2.2 (by omega)
        refine ⟨h0, ?_⟩
        rcases hr with ⟨h1, h2⟩ | ⟨h1, j, h2, h3, h5⟩
        · exact Or.inl ⟨h1, fun j h5 h6 => by
            by_cases e : j = i
            · rw [e]; exact c'
            · exact h2 j (by omega) h6⟩
        · exact Or.inr ⟨h1, j, by omega, h3, h5⟩
      · rw [if_neg d]
        have c' := i_nle d
        rw [hval] at c'
        exact ⟨rfl, Or.inr ⟨rfl, i, Nat.le_refl i, by omega, by omega⟩⟩
