/-! early, the two searches -/
def eA (NA : Nat → Prop) (r : Int32) : Prop := (r = -9 ∧ ∀ x : Nat, 10 ≤ x → x ≤ 99 → ¬ NA x) ∨ ∃ x : Nat, 10 ≤ x ∧ x ≤ 99 ∧ r = nI x ∧ NA x ∧ ∀ x' : Nat, x < x' → x' ≤ 99 → ¬ NA x'
theorem eA.eq {NA : Nat → Prop} {r r' : Int32} (h : eA NA r) (h' : eA NA r') : r = r' := by
  rcases h with ⟨e, h1⟩ | ⟨x, h1, h2, e, h3, h4⟩
  · rcases h' with ⟨e', -⟩ | ⟨x', h1', h2', -, h3', -⟩
    · rw [e, e']
    · exact absurd h3' (h1 x' h1' h2')
  · rcases h' with ⟨e', h1'⟩ | ⟨x', h1', h2', e', h3', h4'⟩
    · exact absurd h3 (h1' x h1 h2)
    · rcases Nat.lt_trichotomy x x' with c | c | c
      · exact absurd h3' (h4 x' c h2')
      · rw [e, e', c]
      · exact absurd h3 (h4' x c h2)
def NAf (o : Nat → Int32) (a : Nat → Nat → Int32) (p0 : Int32) (x : Nat) : Prop := ∀ j : Nat, j < (o 14).toInt.toNat → vl o a (nI x) j ≤ p0.toInt
theorem NAf.le {q : Nat → Nat → Int32} {n : Int32} {g : Nat → Int32} {nC : Int32} {L : Nat → Nat → Int32} {o : Nat → Int32} {a : Nat → Nat → Int32} (W : WR q n g nC L o a) {p0 : Int32} {x y : Nat} (h : NAf o a p0 y) (h1 : 10 ≤ x) (h2 : x ≤ y) (h3 : y ≤ 99) : NAf o a p0 x := fun j hj => by
  have h4 := W.2.1.2.1
  exact Int.le_trans (vl_mono W (k := j) (by omega) (by rw [nI_toInt (by omega), nI_toInt (by omega)]; omega)) (h j hj)
theorem er_L {q : Nat → Nat → Int32} {n : Int32} {nC : Int32} {LP : Nat → Nat → Int32} {o : Nat → Int32} {a : Nat → Nat → Int32} {p0 r : Int32} (h4 : 0 ≤ (o 14).toInt ∧ (o 14).toInt ≤ 4) (hW : ∀ x : Nat, 10 ≤ x → x ≤ 99 → ∃ g, WR q n g nC LP (upd o 17 (nI x)) a) : ∀ (x : Nat), x ≤ 99 → ∀ (f : Nat) (x38 x39 x40 : Nat → Int32) (x30 x31 x32 x33 x34 x35 x41 x42 x43 : Int32), x < f → (∀ x' : Nat, x < x' → x' ≤ 99 → ¬ NAf o a p0 x') → eA (NAf o a p0) (F_X7_early_L30 o a p0 r f x38 x39 x40 (nI x) x30 x31 x32 x33 x34 x35 x41 x42 x43).1 ∧ ((F_X7_early_L30 o a p0 r f x38 x39 x40 (nI x) x30 x31 x32 x33 x34 x35 x41 x42 x43).2.2.2.2.2.2.2.2.2.2.1) = a 0 := by
  intro x
  induction x with
  | zero =>
    intro _ f x38 x39 x40 x30 x31 x32 x33 x34 x35 x41 x42 x43 hf hn
    match f, hf with
    | f + 1, _ =>
      rw [F_X7_early_L30, if_pos (show nI 0 ≤ 9 by decide), if_pos (show nI 0 ≤ 9 by decide)]
      exact ⟨Or.inl ⟨rfl, fun x' h1 h2 => hn x' (by omega) h2⟩, rfl⟩
  | succ x ih =>
    intro hx f x38 x39 x40 x30 x31 x32 x33 x34 x35 x41 x42 x43 hf hn
    match f, hf with
    | f + 1, hf =>
      by_cases c9 : x + 1 ≤ 9
      · have hc : nI (x + 1) ≤ 9 := by rw [Int32.le_iff_toInt_le, nI_toInt (by omega), show (9 : Int32).toInt = 9 from rfl]; omega
        rw [F_X7_early_L30, if_pos hc, if_pos hc]
        exact ⟨Or.inl ⟨rfl, fun x' h1 h2 => hn x' (by omega) h2⟩, rfl⟩
      · have hc : ¬ nI (x + 1) ≤ 9 := by rw [Int32.le_iff_toInt_le, nI_toInt (by omega), show (9 : Int32).toInt = 9 from rfl]; omega
        obtain ⟨g, W⟩ := hW (x + 1) (by omega) hx
        obtain ⟨T, eT⟩ : ∃ T, T = F_X7_isNobodyAbove (upd (upd (upd (upd (upd (upd (upd (upd (upd (upd o 17 (nI (x + 1))) 30 x30) 31 x31) 32 x32) 33 x33) 34 x34) 35 x35) 41 x41) 42 x42) 43 x43) (va_up (va_up (va_up a 38 x38) 39 x39) 40 x40) p0 := ⟨_, rfl⟩
        have hnb : (T.1 = 1 ∧ NAf o a p0 (x + 1)) ∨ (T.1 = 0 ∧ ¬ NAf o a p0 (x + 1)) := by
          have h := nb_L (p0 := p0) W (o' := (upd (upd (upd (upd (upd (upd (upd (upd (upd (upd o 17 (nI (x + 1))) 30 x30) 31 x31) 32 x32) 33 x33) 34 x34) 35 x35) 41 x41) 42 x42) 43 x43)) (a' := (va_up (va_up (va_up a 38 x38) 39 x39) 40 x40)) rfl rfl (N := (o 14).toInt.toNat) (by omega) (o 14).toInt.toNat 0 (by omega) ((((((upd (upd (upd (upd (upd (upd (upd (upd (upd (upd o 17 (nI (x + 1))) 30 x30) 31 x31) 32 x32) 33 x33) 34 x34) 35 x35) 41 x41) 42 x42) 43 x43)) 14).toInt - (0 : Int32).toInt).toNat) + 1) ((va_up (va_up (va_up a 38 x38) 39 x39) 40 x40) 38) ((va_up (va_up (va_up a 38 x38) 39 x39) 40 x40) 39) ((va_up (va_up (va_up a 38 x38) 39 x39) 40 x40) 40) (((upd (upd (upd (upd (upd (upd (upd (upd (upd (upd o 17 (nI (x + 1))) 30 x30) 31 x31) 32 x32) 33 x33) 34 x34) 35 x35) 41 x41) 42 x42) 43 x43)) 30) (((upd (upd (upd (upd (upd (upd (upd (upd (upd (upd o 17 (nI (x + 1))) 30 x30) 31 x31) 32 x32) 33 x33) 34 x34) 35 x35) 41 x41) 42 x42) 43 x43)) 31) (((upd (upd (upd (upd (upd (upd (upd (upd (upd (upd o 17 (nI (x + 1))) 30 x30) 31 x31) 32 x32) 33 x33) 34 x34) 35 x35) 41 x41) 42 x42) 43 x43)) 32) (((upd (upd (upd (upd (upd (upd (upd (upd (upd (upd o 17 (nI (x + 1))) 30 x30) 31 x31) 32 x32) 33 x33) 34 x34) 35 x35) 41 x41) 42 x42) 43 x43)) 33) (((upd (upd (upd (upd (upd (upd (upd (upd (upd (upd o 17 (nI (x + 1))) 30 x30) 31 x31) 32 x32) 33 x33) 34 x34) 35 x35) 41 x41) 42 x42) 43 x43)) 34) (((upd (upd (upd (upd (upd (upd (upd (upd (upd (upd o 17 (nI (x + 1))) 30 x30) 31 x31) 32 x32) 33 x33) 34 x34) 35 x35) 41 x41) 42 x42) 43 x43)) 35) (((upd (upd (upd (upd (upd (upd (upd (upd (upd (upd o 17 (nI (x + 1))) 30 x30) 31 x31) 32 x32) 33 x33) 34 x34) 35 x35) 41 x41) 42 x42) 43 x43)) 41) (((upd (upd (upd (upd (upd (upd (upd (upd (upd (upd o 17 (nI (x + 1))) 30 x30) 31 x31) 32 x32) 33 x33) 34 x34) 35 x35) 41 x41) 42 x42) 43 x43)) 42) (((upd (upd (upd (upd (upd (upd (upd (upd (upd (upd o 17 (nI (x + 1))) 30 x30) 31 x31) 32 x32) 33 x33) 34 x34) 35 x35) 41 x41) 42 x42) 43 x43)) 43) (by show (o 14).toInt.toNat < (((o 14).toInt - (0 : Int32).toInt).toNat) + 1; rw [show (0 : Int32).toInt = 0 from rfl]; omega)
          rw [eT]
          unfold F_X7_isNobodyAbove
          rcases h with ⟨h1, h2⟩ | ⟨h1, j, h2, h3, h5⟩
          · exact Or.inl ⟨h1, fun j hj => h2 j (Nat.zero_le j) hj⟩
          · exact Or.inr ⟨h1, fun hh => h5 (hh j h3)⟩
        have e1 : F_X7_early_L30 o a p0 r (f + 1) x38 x39 x40 (nI (x + 1)) x30 x31 x32 x33 x34 x35 x41 x42 x43 = if T.1 = 0 then F_X7_early_L30 o a p0 r f T.2.2.2.2.2.2.2.2.2.2.1 T.2.2.2.2.2.2.2.2.2.2.2.1 T.2.2.2.2.2.2.2.2.2.2.2.2 (nI x) T.2.1 T.2.2.1 T.2.2.2.1 T.2.2.2.2.1 T.2.2.2.2.2.1 T.2.2.2.2.2.2.1 T.2.2.2.2.2.2.2.1 T.2.2.2.2.2.2.2.2.1 T.2.2.2.2.2.2.2.2.2.1 else (nI (x + 1), T.2.1, T.2.2.1, T.2.2.2.1, T.2.2.2.2.1, T.2.2.2.2.2.1, T.2.2.2.2.2.2.1, T.2.2.2.2.2.2.2.1, T.2.2.2.2.2.2.2.2.1, T.2.2.2.2.2.2.2.2.2.1, a 0, T.2.2.2.2.2.2.2.2.2.2.1, T.2.2.2.2.2.2.2.2.2.2.2.1, T.2.2.2.2.2.2.2.2.2.2.2.2) := by
          rw [F_X7_early_L30, if_neg hc]
          dsimp only
          rw [if_neg hc, ← eT, nI_pred]
        rw [e1]
        rcases hnb with ⟨t1, t2⟩ | ⟨t1, t2⟩
        · rw [t1, if_neg (show ¬ (1 : Int32) = 0 by decide)]
          exact ⟨Or.inr ⟨x + 1, by omega, hx, rfl, t2, hn⟩, rfl⟩
        · rw [if_pos t1]
          exact ih (by omega) f _ _ _ _ _ _ _ _ _ _ _ _ (by omega) (fun x' h1 h2 => by
            by_cases e : x' = x + 1
            · rw [e]; exact t2
            · exact hn x' (by omega) h2)
theorem sa_ok {M : Nat → Int32} {wW : Nat → Nat} {q : Nat → Nat → Int32} {n : Int32} {gB gT : Nat → Int32} {nC : Int32} {LP : Nat → Nat → Int32} {o : Nat → Int32} {a : Nat → Nat → Int32} {p0 : Int32} {x : Nat} (W : WR q n (upd (F_X0_become gT gB) 2 (nI x)) nC LP (upd o 17 (nI x)) a) (b : Nat → Nat → Int32) (c : Nat → Int32) : ((F_X6_someoneAbove M nC wW q n gB b c gT LP p0 (nI x)).1 = 0 ∧ NAf o a p0 x) ∨ ((F_X6_someoneAbove M nC wW q n gB b c gT LP p0 (nI x)).1 = 1 ∧ ¬ NAf o a p0 x) := by
  have h4 : 0 ≤ (o 14).toInt ∧ (o 14).toInt ≤ 4 := W.2.1.2.1
  have hnC : nC = o 14 := W.1.2.2.1
  have h := (sa_L (M := M) (wW := wW) (gB := gB) (gT0 := gT) (b0 := b) (c0 := c) (p0 := p0) W (N := (o 14).toInt.toNat) (by omega) (o 14).toInt.toNat 0 (by omega) (((nC.toInt - (0 : Int32).toInt).toNat) + 1) b c (by rw [hnC, show (0 : Int32).toInt = 0 from rfl]; omega)).2
  unfold F_X6_someoneAbove
  dsimp only
  rcases h with ⟨h1, h2⟩ | ⟨h1, j, h2, h3, h5⟩
  · exact Or.inl ⟨h1, fun j hj => h2 j (Nat.zero_le j) hj⟩
  · exact Or.inr ⟨h1, fun hh => h5 (hh j h3)⟩
theorem eb_S {M : Nat → Int32} {wW : Nat → Nat} {q : Nat → Nat → Int32} {n : Int32} {gB gT0 fY gW : Nat → Int32} {b0 : Nat → Nat → Int32} {c0 : Nat → Int32} {nC : Int32} {LP : Nat → Nat → Int32} {o : Nat → Int32} {a : Nat → Nat → Int32} {p0 r : Int32} (W0 : WR q n gW nC LP o a) (hW : ∀ (gT : Nat → Int32) (x : Nat), 10 ≤ x → x ≤ 99 → WR q n (upd (F_X0_become gT gB) 2 (nI x)) nC LP (upd o 17 (nI x)) a) {d F : Nat} (h1 : 1 ≤ d) (h2 : d ≤ 64) (next : ∀ (f : Nat) (b : Nat → Nat → Int32) (c gT : Nat → Int32) (s : Nat), F < f → 10 ≤ s → s ≤ 99 → NAf o a p0 s → (∀ x' : Nat, s + d ≤ x' → x' ≤ 99 → ¬ NAf o a p0 x') → eA (NAf o a p0) (F_X6_early_L39 M nC wW q n gB b0 c0 gT0 fY LP p0 r f b c gT (nI s) (nI (d / 2))).1 ∧ (F_X6_early_L39 M nC wW q n gB b0 c0 gT0 fY LP p0 r f b c gT (nI s) (nI (d / 2))).2.2.2.2 = fY) : ∀ (f : Nat) (b : Nat → Nat → Int32) (c gT : Nat → Int32) (s : Nat), F + 1 < f → 10 ≤ s → s ≤ 99 → NAf o a p0 s → (∀ x' : Nat, s + 2 * d ≤ x' → x' ≤ 99 → ¬ NAf o a p0 x') → eA (NAf o a p0) (F_X6_early_L39 M nC wW q n gB b0 c0 gT0 fY LP p0 r f b c gT (nI s) (nI d)).1 ∧ (F_X6_early_L39 M nC wW q n gB b0 c0 gT0 fY LP p0 r f b c gT (nI s) (nI d)).2.2.2.2 = fY := by
  intro f b c gT s hf s1 s2 hs hx
  match f, hf with
  | f + 1, hf =>
    have hd0 : ¬ nI d ≤ 0 := by rw [Int32.le_iff_toInt_le, nI_toInt (by omega), show (0 : Int32).toInt = 0 from rfl]; omega
    have hdiv : nI d / 2 = nI (d / 2) := pk_div (d := 2) (by omega) (by omega) (by omega)
    by_cases c99 : s + d ≤ 99
    · have hc : ¬ (99 : Int32) < nI (s + d) := nI_nlt (a := 99) (by omega) (by omega)
      obtain ⟨Z, eZ⟩ : ∃ Z, Z = F_X6_someoneAbove M nC wW q n gB b c gT LP p0 (nI (s + d)) := ⟨_, rfl⟩
      have e1 : F_X6_early_L39 M nC wW q n gB b0 c0 gT0 fY LP p0 r (f + 1) b c gT (nI s) (nI d) = if Z.1 = 0 then F_X6_early_L39 M nC wW q n gB b0 c0 gT0 fY LP p0 r f Z.2.1 Z.2.2.1 Z.2.2.2 (nI (s + d)) (nI (d / 2)) else F_X6_early_L39 M nC wW q n gB b0 c0 gT0 fY LP p0 r f Z.2.1 Z.2.2.1 Z.2.2.2 (nI s) (nI (d / 2)) := by
        rw [F_X6_early_L39, if_neg hd0]
        dsimp only
        rw [nI_add, if_neg hc, hdiv, ← eZ]
      have hsa := sa_ok (M := M) (wW := wW) (p0 := p0) (hW gT (s + d) (by omega) c99) b c
      rw [← eZ] at hsa
      rw [e1]
      rcases hsa with ⟨z1, z2⟩ | ⟨z1, z2⟩
      · rw [if_pos z1]
        exact next f _ _ _ (s + d) (by omega) (by omega) c99 z2 (fun x' g1 g2 => hx x' (by omega) g2)
      · rw [z1, if_neg (show ¬ (1 : Int32) = 0 by decide)]
        exact next f _ _ _ s (by omega) s1 s2 hs (fun x' g1 g2 hh => z2 (hh.le W0 (by omega) g1 g2))
    · have hc : (99 : Int32) < nI (s + d) := nI_lt (a := 99) (by omega) (by omega)
      have e1 : F_X6_early_L39 M nC wW q n gB b0 c0 gT0 fY LP p0 r (f + 1) b c gT (nI s) (nI d) = F_X6_early_L39 M nC wW q n gB b0 c0 gT0 fY LP p0 r f b c gT (nI s) (nI (d / 2)) := by
        rw [F_X6_early_L39, if_neg hd0]
        dsimp only
        rw [nI_add, if_pos hc, hdiv]
      rw [e1]
      exact next f _ _ _ s (by omega) s1 s2 hs (fun x' g1 g2 => by omega)
theorem eb_0 {M : Nat → Int32} {wW : Nat → Nat} {q : Nat → Nat → Int32} {n : Int32} {gB gT0 fY : Nat → Int32} {b0 : Nat → Nat → Int32} {c0 : Nat → Int32} {nC : Int32} {LP : Nat → Nat → Int32} {o : Nat → Int32} {a : Nat → Nat → Int32} {p0 r : Int32} : ∀ (f : Nat) (b : Nat → Nat → Int32) (c gT : Nat → Int32) (s : Nat), 0 < f → 10 ≤ s → s ≤ 99 → NAf o a p0 s → (∀ x' : Nat, s + 1 ≤ x' → x' ≤ 99 → ¬ NAf o a p0 x') → eA (NAf o a p0) (F_X6_early_L39 M nC wW q n gB b0 c0 gT0 fY LP p0 r f b c gT (nI s) (nI (1 / 2))).1 ∧ (F_X6_early_L39 M nC wW q n gB b0 c0 gT0 fY LP p0 r f b c gT (nI s) (nI (1 / 2))).2.2.2.2 = fY := by
  intro f b c gT s hf s1 s2 hs hx
  match f, hf with
  | f + 1, _ =>
    rw [F_X6_early_L39, if_pos (show nI (1 / 2) ≤ 0 by decide)]
    exact ⟨Or.inr ⟨s, s1, s2, rfl, hs, hx⟩, rfl⟩
theorem eb_64 {M : Nat → Int32} {wW : Nat → Nat} {q : Nat → Nat → Int32} {n : Int32} {gB gT0 fY gW : Nat → Int32} {b0 : Nat → Nat → Int32} {c0 : Nat → Int32} {nC : Int32} {LP : Nat → Nat → Int32} {o : Nat → Int32} {a : Nat → Nat → Int32} {p0 r : Int32} (W0 : WR q n gW nC LP o a) (hW : ∀ (gT : Nat → Int32) (x : Nat), 10 ≤ x → x ≤ 99 → WR q n (upd (F_X0_become gT gB) 2 (nI x)) nC LP (upd o 17 (nI x)) a) : ∀ (f : Nat) (b : Nat → Nat → Int32) (c gT : Nat → Int32) (s : Nat), 0 + 1 + 1 + 1 + 1 + 1 + 1 + 1 < f → 10 ≤ s → s ≤ 99 → NAf o a p0 s → (∀ x' : Nat, s + 2 * 64 ≤ x' → x' ≤ 99 → ¬ NAf o a p0 x') → eA (NAf o a p0) (F_X6_early_L39 M nC wW q n gB b0 c0 gT0 fY LP p0 r f b c gT (nI s) (nI 64)).1 ∧ (F_X6_early_L39 M nC wW q n gB b0 c0 gT0 fY LP p0 r f b c gT (nI s) (nI 64)).2.2.2.2 = fY := by
  have S1 := eb_S (M := M) (wW := wW) (gT0 := gT0) (fY := fY) (b0 := b0) (c0 := c0) (p0 := p0) (r := r) W0 hW (d := 1) (F := 0) (by omega) (by omega) eb_0
  have S2 := eb_S (M := M) (wW := wW) (gT0 := gT0) (fY := fY) (b0 := b0) (c0 := c0) (p0 := p0) (r := r) W0 hW (d := 2) (F := 0 + 1) (by omega) (by omega) S1
  have S3 := eb_S (M := M) (wW := wW) (gT0 := gT0) (fY := fY) (b0 := b0) (c0 := c0) (p0 := p0) (r := r) W0 hW (d := 4) (F := 0 + 1 + 1) (by omega) (by omega) S2
  have S4 := eb_S (M := M) (wW := wW) (gT0 := gT0) (fY := fY) (b0 := b0) (c0 := c0) (p0 := p0) (r := r) W0 hW (d := 8) (F := 0 + 1 + 1 + 1) (by omega) (by omega) S3
  have S5 := eb_S (M := M) (wW := wW) (gT0 := gT0) (fY := fY) (b0 := b0) (c0 := c0) (p0 := p0) (r := r) W0 hW (d := 16) (F := 0 + 1 + 1 + 1 + 1) (by omega) (by omega) S4
  have S6 := eb_S (M := M) (wW := wW) (gT0 := gT0) (fY := fY) (b0 := b0) (c0 := c0) (p0 := p0) (r := r) W0 hW (d := 32) (F := 0 + 1 + 1 + 1 + 1 + 1) (by omega) (by omega) S5
  exact eb_S (M := M) (wW := wW) (gT0 := gT0) (fY := fY) (b0 := b0) (c0 := c0) (p0 := p0) (r := r) W0 hW (d := 64) (F := 0 + 1 + 1 + 1 + 1 + 1 + 1) (by omega) (by omega) S6

theorem t_early {oM : Nat → Int32} {nC : Int32} {qS : Nat → Nat → Int32} {nS : Int32} {gB : Nat → Int32} {LP : Nat → Nat → Int32} {fN : Nat → Int32} {nN : Int32} {fZ : Nat → Int32} {fY : Nat → Int32} {nE : Int32} {qU : Nat → Nat → Int32} {nU : Int32} {gH : Nat → Int32} {LQ : Nat → Nat → Int32} {oO : Nat → Int32} {aO : Nat → Nat → Int32} {wW : Nat → Nat} {bR : Nat → Nat → Int32} {cR : Nat → Int32} {gT : Nat → Int32} {p0 : Int32} (h : INV oM nC qS nS gB LP fN nN fZ fY nE qU nU gH LQ oO aO) {z : Int32 × (Nat → Nat → Int32) × (Nat → Int32) × (Nat → Int32) × (Nat → Int32)} (ez : z = F_X6_early oM nC wW qS nS gB bR cR gT fY LP p0) {y : Int32 × Int32 × Int32 × Int32 × Int32 × Int32 × Int32 × Int32 × Int32 × Int32 × (Nat → Int32) × (Nat → Int32) × (Nat → Int32) × (Nat → Int32)} (ey : y = F_X7_early oO aO p0) : z.1 = y.1 ∧ INV oM nC qS nS gB LP fN nN fZ z.2.2.2.2 nE qU nU gH LQ (upd (upd (upd (upd (upd (upd (upd (upd (upd oO 30 y.2.1) 31 y.2.2.1) 32 y.2.2.2.1) 33 y.2.2.2.2.1) 34 y.2.2.2.2.2.1) 35 y.2.2.2.2.2.2.1) 41 y.2.2.2.2.2.2.2.1) 42 y.2.2.2.2.2.2.2.2.1) 43 y.2.2.2.2.2.2.2.2.2.1) (va_up (va_up (va_up (va_up aO 0 y.2.2.2.2.2.2.2.2.2.2.1) 38 y.2.2.2.2.2.2.2.2.2.2.2.1) 39 y.2.2.2.2.2.2.2.2.2.2.2.2.1) 40 y.2.2.2.2.2.2.2.2.2.2.2.2.2) := by
  by_cases cb : F_X6_outside p0 0 999 = 0
  · have W : WR qS nS gB nC LP oO aO := ⟨h.1, h.2.1, h.2.2.2.2.2.1.1, h.2.2.2.2.2.1.2⟩
    have h4 := W.2.1.2.1
    have hdk := W.2.1
    have hWx : ∀ (gT : Nat → Int32) (x : Nat), 10 ≤ x → x ≤ 99 → WR qS nS (upd (F_X0_become gT gB) 2 (nI x)) nC LP (upd oO 17 (nI x)) aO := fun gT x h1 h2 => ⟨⟨⟨h.1.1.1, h.1.1.2.1, fun j hj => h.1.1.2.2 j hj⟩, ⟨⟨h.1.2.1.1.1, h.1.2.1.1.2.1, rfl, h.1.2.1.1.2.2.2⟩, h.1.2.1.2⟩, h.1.2.2.1, fun k hk => h.1.2.2.2 k hk⟩, ⟨h.2.1.1, h.2.1.2.1, fun l hl => h.2.1.2.2.1 l hl, ⟨h.2.1.2.2.2.1.1, (show 10 ≤ (nI x).toInt ∧ (nI x).toInt ≤ 99 by rw [nI_toInt (by omega)]; omega), h.2.1.2.2.2.1.2.2⟩, fun k hk => h.2.1.2.2.2.2 k hk⟩, W.2.2.1, W.2.2.2⟩
    obtain ⟨r1, r2⟩ := er_L (q := qS) (n := nS) (nC := nC) (LP := LP) (p0 := p0) (r := F_X6_outside p0 0 999) h4 (fun x h1 h2 => ⟨_, hWx gB x h1 h2⟩) 99 (Nat.le_refl _) (((99 : Int32).toInt.toNat) + 1) (aO 38) (aO 39) (aO 40) (oO 30) (oO 31) (oO 32) (oO 33) (oO 34) (oO 35) (oO 41) (oO 42) (oO 43) (by decide) (fun x' h1 h2 => by omega)
    have e2 : y = F_X7_early_L30 oO aO p0 (F_X6_outside p0 0 999) (((99 : Int32).toInt.toNat) + 1) (aO 38) (aO 39) (aO 40) (nI 99) (oO 30) (oO 31) (oO 32) (oO 33) (oO 34) (oO 35) (oO 41) (oO 42) (oO 43) := by
      rw [ey]; unfold F_X7_early; dsimp only; rw [bd_eq, if_pos cb]; rfl
    rw [← e2] at r1 r2
    have hz : eA (NAf oO aO p0) z.1 ∧ z.2.2.2.2 = fY := by
      obtain ⟨Z, eZ⟩ : ∃ Z, Z = F_X6_someoneAbove oM nC wW qS nS gB bR cR gT LP p0 (nI 10) := ⟨_, rfl⟩
      have hsa := sa_ok (M := oM) (wW := wW) (p0 := p0) (hWx gT 10 (by omega) (by omega)) bR cR
      rw [← eZ] at hsa
      have e1 : z = if Z.1 = 0 then F_X6_early_L39 oM nC wW qS nS gB bR cR gT fY LP p0 (F_X6_outside p0 0 999) ((((64 : Int32).toInt).toNat) + 1) Z.2.1 Z.2.2.1 Z.2.2.2 (nI 10) (nI 64) else (-9, Z.2.1, Z.2.2.1, Z.2.2.2, fY) := by
        rw [ez, eZ]; unfold F_X6_early; dsimp only; rw [if_pos cb]; rfl
      rw [e1]
      rcases hsa with ⟨z1, z2⟩ | ⟨z1, z2⟩
      · rw [if_pos z1]
        exact eb_64 W hWx _ _ _ _ 10 (by decide) (by omega) (by omega) z2 (fun x' g1 g2 => by omega)
      · rw [z1, if_neg (show ¬ (1 : Int32) = 0 by decide)]
        exact ⟨Or.inl ⟨rfl, fun x g1 g2 hh => z2 (hh.le W (by omega) g1 g2)⟩, rfl⟩
    clear e2 ez ey
    refine ⟨hz.1.eq r1, h.cg (?_ : rY _ _) rfl rfl rfl rfl rfl rfl rfl rfl rfl rfl rfl rfl rfl rfl rfl rfl rfl rfl rfl rfl rfl rfl rfl rfl rfl rfl⟩
    rw [hz.2]
    show rY fY y.2.2.2.2.2.2.2.2.2.2.1
    rw [r2]
    exact h.2.2.1
  · have u := ref_no (M := oM) (o := oO) (a := aO) (w := F_X6_outside p0 0 999) h.2.2.1 bd_rng.1 bd_rng.2
    have e1 : z = ((F_X6_refuse oM fY (F_X6_outside p0 0 999)).1, bR, cR, gT, (F_X6_refuse oM fY (F_X6_outside p0 0 999)).2) := by
      rw [ez]; unfold F_X6_early; dsimp only; rw [if_neg cb]
    have e2 : y = ((F_X7_no oO aO (F_X6_outside p0 0 999)).1, oO 30, oO 31, oO 32, oO 33, oO 34, oO 35, oO 41, oO 42, oO 43, (F_X7_no oO aO (F_X6_outside p0 0 999)).2, aO 38, aO 39, aO 40) := by
      rw [ey]; unfold F_X7_early; dsimp only; rw [bd_eq, if_neg cb]
    clear ez ey
    subst e1 e2
    exact ⟨u.1, h.cg u.2 rfl rfl rfl rfl rfl rfl rfl rfl rfl rfl rfl rfl rfl rfl rfl rfl rfl rfl rfl rfl rfl rfl rfl rfl rfl rfl⟩
