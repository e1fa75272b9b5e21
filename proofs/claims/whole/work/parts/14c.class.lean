/-! the class's search comes to the walk -/
theorem q_at {f : Nat → Int32} {k i : Nat} (h : i < k) (hk : k < 1000) : F_X6_at f k (nI i) = f i := by
  unfold F_X6_at
  rw [if_neg (nI_pos (by omega)), if_neg (fun q => nI_ge h (by omega) q)]
  show f (nI i).toNatClampNeg = f i
  rw [nI_clamp (by omega)]
theorem q_put {f : Nat → Int32} {k i : Nat} {x : Int32} (h : i < k) (hk : k < 1000) : F_X6_put f k (nI i) x = upd f i x := by
  unfold F_X6_put
  rw [if_neg (nI_pos (by omega)), if_neg (fun q => nI_ge h (by omega) q)]
  show upd f (nI i).toNatClampNeg x = upd f i x
  rw [nI_clamp (by omega)]
theorem q_up2 {α : Type} (f : Nat → α) (k : Nat) (x y : α) : va_up (va_up f k x) k y = va_up f k y := by
  funext j
  unfold va_up
  by_cases e : j = k
  · rw [if_pos e, if_pos e]
  · rw [if_neg e, if_neg e, if_neg e]
theorem kp_b (bR : Nat → Nat → Int32) (cR : Nat → Int32) (p r : Int32) : ∀ (n : Nat) (f : Nat → Nat → Int32) (v : Int32), F_X4_keepIfBetter_L46b bR cR p r n f v = F_X4_keepIfBetter_L46 bR cR p r n f v := by
  intro n
  induction n with
  | zero => intros; rfl
  | succ n ih => intro f v; rw [F_X4_keepIfBetter_L46b, F_X4_keepIfBetter_L46]; dsimp only; rw [ih]
theorem kp_L (bR : Nat → Nat → Int32) (cR : Nat → Int32) (r : Int32) {d : Nat} (hd : d ≤ 8) : ∀ (m k : Nat), k + m = d → ∀ (n : Nat) (f : Nat → Nat → Int32), m < n → ∃ g, F_X4_keepIfBetter_L46 bR cR (nI d) r n f (nI k) = (va_up f 10 g, upd (upd cR 13 (nI d)) 14 r) ∧ ∀ j, g j = if k ≤ j ∧ j < d then f 9 j else f 10 j := by
  intro m
  induction m with
  | zero =>
    intro k hk n f hn
    match n, hn with
    | n + 1, _ =>
      refine ⟨f 10, ?_, fun j => by rw [if_neg (by omega)]⟩
      rw [F_X4_keepIfBetter_L46, if_pos (nI_le (by omega) (by omega))]
      have : va_up f 10 (f 10) = f := by
        funext j
        unfold va_up
        by_cases e : j = 10
        · rw [if_pos e, e]
        · rw [if_neg e]
      rw [this]
  | succ m ih =>
    intro k hk n f hn
    match n, hn with
    | n + 1, hn =>
      obtain ⟨g, e, h⟩ := ih (k + 1) (by omega) n (va_up f 10 (upd (f 10) k (f 9 k))) (by omega)
      refine ⟨g, ?_, fun j => ?_⟩
      · rw [F_X4_keepIfBetter_L46, if_neg (nI_ge (by omega) (by omega))]
        dsimp only
        rw [q_at (k := 8) (i := k) (by omega) (by omega), q_put (k := 8) (i := k) (by omega) (by omega), nI_1, e, q_up2]
      · rw [h j]
        show (if k + 1 ≤ j ∧ j < d then f 9 j else upd (f 10) k (f 9 k) j) = _
        by_cases e1 : j = k
        · subst e1; rw [if_neg (by omega), if_pos (by omega), pk_us]
        · rw [pk_un e1]
          by_cases e2 : k + 1 ≤ j ∧ j < d
          · rw [if_pos e2, if_pos (by omega)]
          · rw [if_neg e2, if_neg (by omega)]
def cB (bR : Nat → Nat → Int32) (cR : Nat → Int32) (b : SB) : Prop := (cR 14).toInt = b.1 ∧ cR 13 = nI b.2.2.length ∧ b.2.2.length ≤ 8 ∧ wAg (bR 10) b.2.2
/-- keepIfBetter: the rest stays, the best is kept -/
theorem kp_eq {P : SP} {bR : Nat → Nat → Int32} {cR : Nat → Int32} {d : Nat} {w : List Int32} {t : SS} {b : SB} (hd : d ≤ 8) (hw : w.length = d) (hv : (bR 8 d).toInt = s_val P t.2.2.2) (hg : wAg (bR 9) w) (hb : cB bR cR b) : ∃ g c13 c14, F_X4_keepIfBetter bR cR (nI d) = (va_up bR 10 g, upd (upd cR 13 c13) 14 c14) ∧ cB (va_up bR 10 g) (upd (upd cR 13 c13) 14 c14) (s_keep P w t b) := by
  obtain ⟨b1, b2, b3, b4⟩ := hb
  obtain ⟨g, e, h⟩ := kp_L bR cR (bR 8 d) hd d 0 (by omega) ((((nI d).toInt - (0 : Int32).toInt).toNat) + 1) bR (by rw [nI_toInt (by omega), show (0 : Int32).toInt = 0 from rfl]; omega)
  have hF : F_X4_keepIfBetter bR cR (nI d) = if bR 8 d < cR 14 then (bR, cR) else if bR 8 d = cR 14 then (if nI d < cR 13 then (va_up bR 10 g, upd (upd cR 13 (nI d)) 14 (bR 8 d)) else (bR, cR)) else (va_up bR 10 g, upd (upd cR 13 (nI d)) 14 (bR 8 d)) := by
    unfold F_X4_keepIfBetter
    dsimp only
    rw [kp_b, q_at (k := 9) (i := d) (by omega) (by omega), show F_X4_keepIfBetter_L46 bR cR (nI d) (bR 8 d) ((((nI d).toInt - (0 : Int32).toInt).toNat) + 1) bR 0 = _ from e]
  have hk : s_keep P w t b = if s_val P t.2.2.2 < b.1 ∨ (s_val P t.2.2.2 = b.1 ∧ b.2.2.length ≤ w.length) then b else (s_val P t.2.2.2, t.2.2.2, w) := rfl
  have hc1 : bR 8 d < cR 14 ↔ s_val P t.2.2.2 < b.1 := by rw [Int32.lt_iff_toInt_lt, hv, b1]
  have hc2 : bR 8 d = cR 14 ↔ s_val P t.2.2.2 = b.1 := by rw [← Int32.toInt_inj, hv, b1]
  have hc3 : nI d < cR 13 ↔ d < b.2.2.length := by rw [b2, nI_ltI (by omega) (by omega)]
  have hsame : va_up bR 10 (bR 10) = bR ∧ upd (upd cR 13 (cR 13)) 14 (cR 14) = cR := by
    constructor
    · funext j
      unfold va_up
      by_cases e : j = 10
      · rw [if_pos e, e]
      · rw [if_neg e]
    · funext j
      unfold upd
      by_cases e : j = 14
      · rw [if_pos e, e]
      · rw [if_neg e]
        by_cases e : j = 13
        · rw [if_pos e, e]
        · rw [if_neg e]
  have hold : F_X4_keepIfBetter bR cR (nI d) = (bR, cR) → s_keep P w t b = b → ∃ g c13 c14, F_X4_keepIfBetter bR cR (nI d) = (va_up bR 10 g, upd (upd cR 13 c13) 14 c14) ∧ cB (va_up bR 10 g) (upd (upd cR 13 c13) 14 c14) (s_keep P w t b) := fun h1 h2 => ⟨bR 10, cR 13, cR 14, by rw [hsame.1, hsame.2]; exact h1, by rw [hsame.1, hsame.2, h2]; exact ⟨b1, b2, b3, b4⟩⟩
  have hnew : F_X4_keepIfBetter bR cR (nI d) = (va_up bR 10 g, upd (upd cR 13 (nI d)) 14 (bR 8 d)) → s_keep P w t b = (s_val P t.2.2.2, t.2.2.2, w) → ∃ g c13 c14, F_X4_keepIfBetter bR cR (nI d) = (va_up bR 10 g, upd (upd cR 13 c13) 14 c14) ∧ cB (va_up bR 10 g) (upd (upd cR 13 c13) 14 c14) (s_keep P w t b) := fun h1 h2 => ⟨g, nI d, bR 8 d, h1, by
    rw [h2]
    refine ⟨hv, by rw [← hw]; rfl, by show w.length ≤ 8; omega, ?_⟩
    exact hg.of (fun k hk => by show g k = bR 9 k; rw [h k, if_pos ⟨by omega, by omega⟩])⟩
  by_cases c1 : bR 8 d < cR 14
  · exact hold (by rw [hF, if_pos c1]) (by rw [hk, if_pos (Or.inl (hc1.mp c1))])
  · by_cases c2 : bR 8 d = cR 14
    · by_cases c3 : nI d < cR 13
      · refine hnew (by rw [hF, if_neg c1, if_pos c2, if_pos c3]) ?_
        rw [hk, if_neg]
        have := hc3.mp c3
        exact fun q => q.elim (fun q => c1 (hc1.mpr q)) (fun q => by omega)
      · refine hold (by rw [hF, if_neg c1, if_pos c2, if_neg c3]) ?_
        rw [hk, if_pos]
        have h9 : ¬ d < b.2.2.length := fun q => c3 (hc3.mpr q)
        exact Or.inr ⟨hc2.mp c2, by omega⟩
    · refine hnew (by rw [hF, if_neg c1, if_neg c2]) ?_
      rw [hk, if_neg]
      exact fun q => q.elim (fun q => c1 (hc1.mpr q)) (fun q => c2 (hc2.mpr q.1))
/-- the search's cells at a depth say where a looker in mind stands -/
def cS (P : SP) (nt0 : Int32) (bR : Nat → Nat → Int32) (cR : Nat → Int32) (d : Nat) (w : List Int32) (s : SS) : Prop :=
  (bR 5 d = s.1 ∧ bR 6 d = s.2.1 ∧ (∃ t, t ≤ d ∧ bR 7 d = nI t ∧ s.2.2.1 = nt0 + nI t) ∧ (bR 8 d).toInt = s_val P s.2.2.2) ∧
  ((cR 12).toInt = s_open P s.2.2.2 ∧ cR 11 = pNv P) ∧
  (∀ c, c < 4 → bR 3 c = eo (s_line P s.2.2.2 (nI c))) ∧
  (∀ l, l < pN P → pVis P (pCol P l) = true → bt s.2.2.2 l = false → bR 2 l = eo (fr (un (pCol P) s.2.2.2 (pCol P l)) (pN P - (l + 1)) (l + 1))) ∧
  (∀ l, l < pN P → bR 0 l = pTk P l ∧ (bR 1 l).toInt = pW P l) ∧
  (∀ t, t ≤ 8 → ∀ x : Int32, (x ≤ bR 4 t ↔ pOk P x (nt0 + nI t) = true)) ∧ wAg (bR 9) w ∧ w.length = d
/-- what a search from a depth on leaves alone -/
def cF (d : Nat) (bR : Nat → Nat → Int32) (cR : Nat → Int32) (bR' : Nat → Nat → Int32) (cR' : Nat → Int32) : Prop :=
  (bR' 0 = bR 0 ∧ bR' 1 = bR 1 ∧ bR' 2 = bR 2 ∧ bR' 4 = bR 4) ∧ (∀ c, c < 4 → bR' 3 c = bR 3 c) ∧ (∀ j, j ≤ d → bR' 5 j = bR 5 j ∧ bR' 6 j = bR 6 j ∧ bR' 7 j = bR 7 j ∧ bR' 8 j = bR 8 j) ∧ (∀ k, k < d → bR' 9 k = bR 9 k) ∧ cR' 11 = cR 11 ∧ cR' 12 = cR 12
theorem cF.rf {d : Nat} {bR : Nat → Nat → Int32} {cR : Nat → Int32} : cF d bR cR bR cR := ⟨⟨rfl, rfl, rfl, rfl⟩, fun _ _ => rfl, fun _ _ => ⟨rfl, rfl, rfl, rfl⟩, fun _ _ => rfl, rfl, rfl⟩
theorem cF.tr {d : Nat} {bR bR' bR'' : Nat → Nat → Int32} {cR cR' cR'' : Nat → Int32} (h : cF d bR cR bR' cR') (g : cF d bR' cR' bR'' cR'') : cF d bR cR bR'' cR'' := by
  obtain ⟨⟨a1, a2, a3, a4⟩, a5, a6, a7, a8, a9⟩ := h
  obtain ⟨⟨b1, b2, b3, b4⟩, b5, b6, b7, b8, b9⟩ := g
  refine ⟨⟨b1.trans a1, b2.trans a2, b3.trans a3, b4.trans a4⟩, fun c hc => (b5 c hc).trans (a5 c hc), fun j hj => ?_, fun k hk => (b7 k hk).trans (a7 k hk), b8.trans a8, b9.trans a9⟩
  obtain ⟨x1, x2, x3, x4⟩ := a6 j hj
  obtain ⟨y1, y2, y3, y4⟩ := b6 j hj
  exact ⟨y1.trans x1, y2.trans x2, y3.trans x3, y4.trans x4⟩
theorem cS.of {P : SP} {nt0 : Int32} {bR bR' : Nat → Nat → Int32} {cR cR' : Nat → Int32} {d : Nat} {w : List Int32} {s : SS} (h : cS P nt0 bR cR d w s) (g : cF d bR cR bR' cR') : cS P nt0 bR' cR' d w s := by
  obtain ⟨⟨a1, a2, a3, a4⟩, ⟨a5, a6⟩, a7, a8, a9, a10, a11, a12⟩ := h
  obtain ⟨⟨b1, b2, b3, b4⟩, b5, b6, b7, b8, b9⟩ := g
  obtain ⟨y1, y2, y3, y4⟩ := b6 d (Nat.le_refl d)
  refine ⟨⟨y1.trans a1, y2.trans a2, by rw [y3]; exact a3, by rw [y4]; exact a4⟩, ⟨by rw [b9]; exact a5, b8.trans a6⟩, fun c hc => (b5 c hc).trans (a7 c hc), ?_, ?_, ?_, a11.of (fun k hk => b7 k (by omega)), a12⟩
  · rw [b3]; exact a8
  · rw [b1, b2]; exact a9
  · rw [b4]; exact a10
theorem fr_skip {P : Nat → Bool} : ∀ (j k m : Nat), (∀ i, k ≤ i → i < k + j → P i = false) → fr P (j + m) k = fr P m (k + j) := by
  intro j
  induction j with
  | zero => intro k m _; rw [Nat.zero_add, Nat.add_zero]
  | succ j ih =>
    intro k m h
    rw [show j + 1 + m = (j + m) + 1 by omega, fr_s, if_neg (by rw [h k (Nat.le_refl _) (by omega)]; decide), ih (k + 1) m (fun i h1 h2 => h i (by omega) (by omega)), show k + 1 + j = k + (j + 1) by omega]
/-- the deep part of tryLine -/
noncomputable def tlD (G : (Nat → Nat → Int32) → (Nat → Int32) → Int32 → (Nat → Nat → Int32) × (Nat → Int32)) (bR : Nat → Nat → Int32) (cR : Nat → Int32) (p0 p1 p2 sec on times : Int32) : (Nat → Nat → Int32) × (Nat → Int32) :=
  let b1 := va_up (va_up (va_up (va_up (va_up bR 5 (F_X6_put (bR 5) 9 (p0 + 1) sec)) 6 (F_X6_put (bR 6) 9 (p0 + 1) on)) 7 (F_X6_put (bR 7) 9 (p0 + 1) times)) 8 (F_X6_put (bR 8) 9 (p0 + 1) (F_X6_at (bR 8) 9 p0 + F_X6_at (bR 1) 8 p2))) 9 (F_X6_put (bR 9) 8 p0 p1)
  let z1 := F_X4_keepIfBetter b1 cR (p0 + 1)
  let z2 := G (va_up z1.1 3 (F_X6_put (z1.1 3) 4 p1 (F_X6_at (z1.1 2) 8 p2))) (upd z1.2 12 (z1.2 12 - F_X6_at (z1.1 1) 8 p2)) (p0 + 1)
  (va_up z2.1 3 (F_X6_put (z2.1 3) 4 p1 p2), upd z2.2 12 (z2.2 12 + F_X6_at (z2.1 1) 8 p2))
theorem tl_eq (G : (Nat → Nat → Int32) → (Nat → Int32) → Int32 → (Nat → Nat → Int32) × (Nat → Int32)) (bR : Nat → Nat → Int32) (cR : Nat → Int32) (p0 p1 p2 : Int32) : F_X4_tryLine G bR cR p0 p1 p2 = if F_X6_at (bR 6) 9 p0 + F_X6_at (bR 0) 8 p2 ≤ cR 11 then (if F_X6_at (bR 5) 9 p0 + F_X6_at (bR 0) 8 p2 ≤ F_X6_at (bR 4) 9 (F_X6_at (bR 7) 9 p0 + 0) then tlD G bR cR p0 p1 p2 (F_X6_at (bR 5) 9 p0 + F_X6_at (bR 0) 8 p2) (F_X6_at (bR 6) 9 p0 + F_X6_at (bR 0) 8 p2) (F_X6_at (bR 7) 9 p0 + 0) else (bR, cR)) else (if F_X6_at (bR 5) 9 p0 + F_X6_at (bR 0) 8 p2 ≤ F_X6_at (bR 4) 9 (F_X6_at (bR 7) 9 p0 + 1) then tlD G bR cR p0 p1 p2 (F_X6_at (bR 5) 9 p0 + F_X6_at (bR 0) 8 p2) 0 (F_X6_at (bR 7) 9 p0 + 1) else (bR, cR)) := rfl
theorem s_b {P : SP} (hP : sOK P) (rd : Int32) : (0 ≤ s_val P rd ∧ s_val P rd ≤ 800) ∧ (0 ≤ s_open P rd ∧ s_open P rd ≤ 800) := by
  have h8 := hP.1
  have h1 := s_sum_0 (g := pW P) (Q := fun l => bt rd l) (pN P) (fun l hl => (hP.2 l hl).1)
  have h2 := s_sum_0 (g := pW P) (Q := fun l => pVis P (pCol P l) && !bt rd l) (pN P) (fun l hl => (hP.2 l hl).1)
  have h3 := s_sum_le (g := pW P) (Q := fun l => bt rd l) (pN P) hP.2
  have h4 := s_sum_le (g := pW P) (Q := fun l => pVis P (pCol P l) && !bt rd l) (pN P) hP.2
  have e1 : s_val P rd = s_sum (pW P) (fun l => bt rd l) (pN P) := rfl
  have e2 : s_open P rd = s_sum (pW P) (fun l => pVis P (pCol P l) && !bt rd l) (pN P) := rfl
  rw [e1, e2]
  omega
set_option maxHeartbeats 2000000 in
theorem tlD_ok {P : SP} (hP : sOK P) {nt0 : Int32} {G : (Nat → Nat → Int32) → (Nat → Int32) → Int32 → (Nat → Nat → Int32) × (Nat → Int32)} {K : List Int32 → SS → SB → SB} {d : Nat} (hd : d < 8) {w : List Int32} {s : SS} {b : SB} {bR : Nat → Nat → Int32} {cR : Nat → Int32}
    (hG : ∀ (w : List Int32) (t : SS) (b : SB) (bR : Nat → Nat → Int32) (cR : Nat → Int32), cS P nt0 bR cR (d + 1) w t → cB bR cR b → unr t.2.2.2 (pN P) + (d + 1) ≤ 8 → unr t.2.2.2 (pN P) < unr s.2.2.2 (pN P) → cF (d + 1) bR cR (G bR cR (nI (d + 1))).1 (G bR cR (nI (d + 1))).2 ∧ cB (G bR cR (nI (d + 1))).1 (G bR cR (nI (d + 1))).2 (K w t b))
    (hS : cS P nt0 bR cR d w s) (hB : cB bR cR b) (hu : unr s.2.2.2 (pN P) + d ≤ 8) {c l : Nat} (hc : c < 4) (hl : s_line P s.2.2.2 (nI c) = some l) {t : SS} (ht : s_read P l s = some t) {k : Nat} (hk : k ≤ d + 1) (hkt : t.2.2.1 = nt0 + nI k) :
    cF d bR cR (tlD G bR cR (nI d) (nI c) (nI l) t.1 t.2.1 (nI k)).1 (tlD G bR cR (nI d) (nI c) (nI l) t.1 t.2.1 (nI k)).2 ∧ cB (tlD G bR cR (nI d) (nI c) (nI l) t.1 t.2.1 (nI k)).1 (tlD G bR cR (nI d) (nI c) (nI l) t.1 t.2.1 (nI k)).2 (K (w ++ [nI c]) t (s_keep P (w ++ [nI c]) t b)) := by
  have h8 := hP.1
  obtain ⟨l1, l2, l3, l4, l5⟩ := s_line_some hl
  have hrd := s_read_rd ht
  obtain ⟨v1, v2, v3⟩ := s_set hP l1 l3 (by rw [l4]; exact l2)
  rw [← hrd] at v1 v2 v3
  obtain ⟨⟨a5, a6, -, a8⟩, ⟨a12, a11⟩, aN, aB, aL, aO, aT, aW⟩ := hS
  obtain ⟨g0, g1⟩ := aL l l1
  have hw := hP.2 l l1
  have bs := s_b hP s.2.2.2
  have bt' := s_b hP t.2.2.2
  have x8 : (bR 8 d + bR 1 l).toInt = s_val P t.2.2.2 := by
    rw [v1, ← a8, ← g1]
    exact i_add rfl (by omega) (by omega)
  have x12 : (cR 12 - bR 1 l).toInt = s_open P t.2.2.2 := by
    have : (cR 12 - bR 1 l).toInt = (cR 12).toInt - (bR 1 l).toInt := i_sub rfl (by omega) (by omega)
    omega
  have hwl : (w ++ [nI c]).length = d + 1 := by rw [List.length_append, List.length_singleton, aW]
  have hg9 : wAg (upd (bR 9) d (nI c)) (w ++ [nI c]) := wAg.app (aT.of (fun k hk => pk_un (by omega))) (by rw [aW, pk_us])
  obtain ⟨b1, hb1⟩ : ∃ b1, b1 = va_up (va_up (va_up (va_up (va_up bR 5 (upd (bR 5) (d + 1) t.1)) 6 (upd (bR 6) (d + 1) t.2.1)) 7 (upd (bR 7) (d + 1) (nI k))) 8 (upd (bR 8) (d + 1) (bR 8 d + bR 1 l))) 9 (upd (bR 9) d (nI c)) := ⟨_, rfl⟩
  have y0 : b1 0 = bR 0 := by rw [hb1]; rfl
  have y1 : b1 1 = bR 1 := by rw [hb1]; rfl
  have y2 : b1 2 = bR 2 := by rw [hb1]; rfl
  have y3 : b1 3 = bR 3 := by rw [hb1]; rfl
  have y4 : b1 4 = bR 4 := by rw [hb1]; rfl
  have y5 : b1 5 = upd (bR 5) (d + 1) t.1 := by rw [hb1]; rfl
  have y6 : b1 6 = upd (bR 6) (d + 1) t.2.1 := by rw [hb1]; rfl
  have y7 : b1 7 = upd (bR 7) (d + 1) (nI k) := by rw [hb1]; rfl
  have y8 : b1 8 = upd (bR 8) (d + 1) (bR 8 d + bR 1 l) := by rw [hb1]; rfl
  have y9 : b1 9 = upd (bR 9) d (nI c) := by rw [hb1]; rfl
  have y10 : b1 10 = bR 10 := by rw [hb1]; rfl
  obtain ⟨g, c13, c14, hkp, hcB⟩ := kp_eq (P := P) (bR := b1) (cR := cR) (d := d + 1) (w := w ++ [nI c]) (t := t) (b := b) (by omega) hwl (by rw [y8, pk_us]; exact x8) (by rw [y9]; exact hg9) (by unfold cB; rw [y10]; exact hB)
  obtain ⟨b2, hb2⟩ : ∃ b2, b2 = va_up (va_up b1 10 g) 3 (upd (b1 3) c (b1 2 l)) := ⟨_, rfl⟩
  obtain ⟨c2, hc2⟩ : ∃ c2, c2 = upd (upd (upd cR 13 c13) 14 c14) 12 (cR 12 - b1 1 l) := ⟨_, rfl⟩
  have z0 : b2 0 = bR 0 := by rw [hb2, ← y0]; rfl
  have z1 : b2 1 = bR 1 := by rw [hb2, ← y1]; rfl
  have z2 : b2 2 = bR 2 := by rw [hb2, ← y2]; rfl
  have z3 : b2 3 = upd (bR 3) c (bR 2 l) := by rw [hb2, ← y3, ← y2]; rfl
  have z4 : b2 4 = bR 4 := by rw [hb2, ← y4]; rfl
  have z5 : b2 5 = upd (bR 5) (d + 1) t.1 := by rw [hb2, ← y5]; rfl
  have z6 : b2 6 = upd (bR 6) (d + 1) t.2.1 := by rw [hb2, ← y6]; rfl
  have z7 : b2 7 = upd (bR 7) (d + 1) (nI k) := by rw [hb2, ← y7]; rfl
  have z8 : b2 8 = upd (bR 8) (d + 1) (bR 8 d + bR 1 l) := by rw [hb2, ← y8]; rfl
  have z9 : b2 9 = upd (bR 9) d (nI c) := by rw [hb2, ← y9]; rfl
  have z10 : b2 10 = (va_up b1 10 g) 10 := by rw [hb2]; rfl
  have w11 : c2 11 = cR 11 := by rw [hc2]; rfl
  have w12 : c2 12 = cR 12 - bR 1 l := by rw [hc2, y1]; rfl
  have w13 : c2 13 = (upd (upd cR 13 c13) 14 c14) 13 := by rw [hc2]; rfl
  have w14 : c2 14 = (upd (upd cR 13 c13) 14 c14) 14 := by rw [hc2]; rfl
  have hbs : ∀ i, i < pN P → bt t.2.2.2 i = (bt s.2.2.2 i || decide (i = l)) := fun i hi => by rw [hrd]; exact b_set (by omega) (by omega)
  have hcB2 : cB b2 c2 (s_keep P (w ++ [nI c]) t b) := by
    unfold cB at hcB ⊢
    rw [z10, w13, w14]
    exact hcB
  have hcS2 : cS P nt0 b2 c2 (d + 1) (w ++ [nI c]) t := by
    refine ⟨⟨by rw [z5, pk_us], by rw [z6, pk_us], ⟨k, hk, by rw [z7, pk_us], hkt⟩, by rw [z8, pk_us]; exact x8⟩, ⟨by rw [w12]; exact x12, by rw [w11]; exact a11⟩, fun c' hc' => ?_, fun i hi hv hb => ?_, by rw [z0, z1]; exact aL, by rw [z4]; exact aO, by rw [z9]; exact hg9, hwl⟩
    · rw [z3]
      by_cases e : c' = c
      · subst e
        rw [pk_us, aB l l1 (by rw [l4]; exact l2) l3, l4]
        unfold s_line
        rw [if_pos l2]
        have h1 := fr_skip (P := un (pCol P) t.2.2.2 (nI c')) (l + 1) 0 (pN P - (l + 1)) (fun i _ hi => by
          rw [un_d]
          by_cases e : i = l
          · rw [hbs i (by omega), decide_eq_true e, Bool.or_true, Bool.not_true, Bool.and_false]
          · have h2 := l5 i (by omega)
            rw [un_d] at h2
            rw [hbs i (by omega), decide_eq_false e, Bool.or_false]
            exact h2)
        rw [show l + 1 + (pN P - (l + 1)) = pN P by omega, Nat.zero_add] at h1
        rw [h1]
        exact congrArg eo (fr_c _ _ (fun i h1 h2 => by rw [un_d, un_d, hbs i (by omega), decide_eq_false (p := i = l) (by omega), Bool.or_false]))
      · rw [pk_un e, aN c' hc']
        unfold s_line
        by_cases q : pVis P (nI c') = true
        · rw [if_pos q, if_pos q]
          refine congrArg eo (fr_c _ _ (fun i h1 h2 => ?_))
          rw [un_d, un_d, hbs i (by omega)]
          by_cases e2 : i = l
          · have : ¬ pCol P i = nI c' := by
              rw [e2, l4]
              intro q
              exact e ((nI_eq (by omega) (by omega)).mp q).symm
            rw [decide_eq_false this, Bool.false_and, Bool.false_and]
          · rw [decide_eq_false e2, Bool.or_false]
        · rw [if_neg q, if_neg q]
    · rw [hbs i hi, Bool.or_eq_false_iff] at hb
      have hil : ¬ i = l := of_decide_eq_false hb.2
      rw [z2, aB i hi hv hb.1]
      refine congrArg eo (fr_c _ _ (fun j h1 h2 => ?_))
      rw [un_d, un_d, hbs j (by omega)]
      by_cases e2 : j = l
      · by_cases e3 : pCol P i = nI c
        · exfalso
          have h2 := l5 i (by omega)
          rw [un_d, decide_eq_true e3, hb.1] at h2
          exact absurd h2 (by decide)
        · have : ¬ pCol P j = pCol P i := by rw [e2, l4]; exact fun q => e3 q.symm
          rw [decide_eq_false this, Bool.false_and, Bool.false_and]
      · rw [decide_eq_false e2, Bool.or_false]
  obtain ⟨hF2, hB2⟩ := hG (w ++ [nI c]) t _ b2 c2 hcS2 hcB2 (by omega) (by omega)
  have e : tlD G bR cR (nI d) (nI c) (nI l) t.1 t.2.1 (nI k) = (va_up (G b2 c2 (nI (d + 1))).1 3 (upd ((G b2 c2 (nI (d + 1))).1 3) c (nI l)), upd (G b2 c2 (nI (d + 1))).2 12 ((G b2 c2 (nI (d + 1))).2 12 + (G b2 c2 (nI (d + 1))).1 1 l)) := by
    unfold tlD
    dsimp only
    rw [nI_1, q_put (k := 9) (i := d + 1) (by omega) (by omega), q_put (k := 9) (i := d + 1) (by omega) (by omega), q_put (k := 9) (i := d + 1) (by omega) (by omega), q_at (k := 9) (i := d) (by omega) (by omega), q_at (k := 8) (i := l) (by omega) (by omega), q_put (k := 9) (i := d + 1) (by omega) (by omega), q_put (k := 8) (i := d) (by omega) (by omega), ← hb1, hkp]
    dsimp only
    rw [q_at (k := 8) (i := l) (by omega) (by omega), q_put (k := 4) (i := c) (by omega) (by omega), q_at (k := 8) (i := l) (by omega) (by omega)]
    have hG1 : G (va_up (va_up b1 10 g) 3 (upd (va_up b1 10 g 3) c (va_up b1 10 g 2 l))) (upd (upd (upd cR 13 c13) 14 c14) 12 (upd (upd cR 13 c13) 14 c14 12 - va_up b1 10 g 1 l)) (nI (d + 1)) = G b2 c2 (nI (d + 1)) := by rw [hb2, hc2]; rfl
    rw [hG1, q_put (k := 4) (i := c) (by omega) (by omega), q_at (k := 8) (i := l) (by omega) (by omega)]
  rw [e]
  generalize G b2 c2 (nI (d + 1)) = z at *
  obtain ⟨⟨f0, f1, f2, f4⟩, f3, f5, f9, f11, f12⟩ := hF2
  refine ⟨⟨⟨f0.trans z0, f1.trans z1, f2.trans z2, f4.trans z4⟩, fun c' hc' => ?_, fun j hj => ?_, fun k hk => ?_, f11.trans w11, ?_⟩, hB2⟩
  · show upd (z.1 3) c (nI l) c' = bR 3 c'
    by_cases e : c' = c
    · subst e
      rw [pk_us, aN c' hc', hl]
      rfl
    · rw [pk_un e, f3 c' hc', z3, pk_un e]
  · obtain ⟨j5, j6, j7, j8⟩ := f5 j (by omega)
    refine ⟨j5.trans ?_, j6.trans ?_, j7.trans ?_, j8.trans ?_⟩
    · rw [z5, pk_un (by omega)]
    · rw [z6, pk_un (by omega)]
    · rw [z7, pk_un (by omega)]
    · rw [z8, pk_un (by omega)]
  · exact (f9 k (by omega)).trans (by rw [z9, pk_un (by omega)])
  · show (z.2 12 + z.1 1 l) = cR 12
    rw [f12, f1, z1, w12, Int32.sub_add_cancel]
theorem tl_ok {P : SP} (hP : sOK P) {nt0 : Int32} {G : (Nat → Nat → Int32) → (Nat → Int32) → Int32 → (Nat → Nat → Int32) × (Nat → Int32)} {K : List Int32 → SS → SB → SB} {d : Nat} (hd : d < 8) {w : List Int32} {s : SS} {b : SB} {bR : Nat → Nat → Int32} {cR : Nat → Int32}
    (hG : ∀ (w : List Int32) (t : SS) (b : SB) (bR : Nat → Nat → Int32) (cR : Nat → Int32), cS P nt0 bR cR (d + 1) w t → cB bR cR b → unr t.2.2.2 (pN P) + (d + 1) ≤ 8 → unr t.2.2.2 (pN P) < unr s.2.2.2 (pN P) → cF (d + 1) bR cR (G bR cR (nI (d + 1))).1 (G bR cR (nI (d + 1))).2 ∧ cB (G bR cR (nI (d + 1))).1 (G bR cR (nI (d + 1))).2 (K w t b))
    (hS : cS P nt0 bR cR d w s) (hB : cB bR cR b) (hu : unr s.2.2.2 (pN P) + d ≤ 8) {c l : Nat} (hc : c < 4) (hl : s_line P s.2.2.2 (nI c) = some l) :
    cF d bR cR (F_X4_tryLine G bR cR (nI d) (nI c) (nI l)).1 (F_X4_tryLine G bR cR (nI d) (nI c) (nI l)).2 ∧ cB (F_X4_tryLine G bR cR (nI d) (nI c) (nI l)).1 (F_X4_tryLine G bR cR (nI d) (nI c) (nI l)).2 (s_one P K w s (nI c) b) := by
  have h8 := hP.1
  have l1 := (s_line_some hl).1
  obtain ⟨⟨a5, a6, ⟨k0, hk0, a7, hnt⟩, a8⟩, ⟨a12, a11⟩, aN, aB, aL, aO, aT, aW⟩ := id hS
  have g0 := (aL l l1).1
  have hone : ∀ t, s_read P l s = some t → s_one P K w s (nI c) b = K (w ++ [nI c]) t (s_keep P (w ++ [nI c]) t b) := fun t ht => by
    unfold s_one
    rw [s_step_i hl, ht]
  have hnone : s_read P l s = none → s_one P K w s (nI c) b = b := fun ht => by
    unfold s_one
    rw [s_step_i hl, ht]
  rw [tl_eq, q_at (k := 9) (i := d) (by omega) (by omega), q_at (k := 8) (i := l) (by omega) (by omega), q_at (k := 9) (i := d) (by omega) (by omega), q_at (k := 9) (i := d) (by omega) (by omega), a6, a5, a7, a11, g0, Int32.add_zero, nI_1, q_at (k := 9) (i := k0) (by omega) (by omega), q_at (k := 9) (i := k0 + 1) (by omega) (by omega)]
  by_cases c1 : s.2.1 + pTk P l ≤ pNv P
  · rw [if_pos c1]
    by_cases c2 : s.1 + pTk P l ≤ bR 4 k0
    · rw [if_pos c2]
      have ht : s_read P l s = some (s.1 + pTk P l, s.2.1 + pTk P l, s.2.2.1, s.2.2.2 ||| ((1 : Int32) <<< (nI l &&& 31))) := by
        unfold s_read
        rw [if_pos c1, if_pos (by rw [hnt]; exact (aO k0 (by omega) _).mp c2)]
      rw [hone _ ht]
      exact tlD_ok hP hd hG hS hB hu hc hl ht (k := k0) (by omega) hnt
    · rw [if_neg c2]
      have ht : s_read P l s = none := by
        unfold s_read
        rw [if_pos c1, if_neg (by rw [hnt]; exact fun q => c2 ((aO k0 (by omega) _).mpr q))]
      rw [hnone ht]
      exact ⟨cF.rf, hB⟩
  · rw [if_neg c1]
    have hnt1 : s.2.2.1 + 1 = nt0 + nI (k0 + 1) := by rw [hnt, ← nI_1, Int32.add_assoc]
    by_cases c2 : s.1 + pTk P l ≤ bR 4 (k0 + 1)
    · rw [if_pos c2]
      have ht : s_read P l s = some (s.1 + pTk P l, 0, s.2.2.1 + 1, s.2.2.2 ||| ((1 : Int32) <<< (nI l &&& 31))) := by
        unfold s_read
        rw [if_neg c1, if_pos (by rw [hnt1]; exact (aO (k0 + 1) (by omega) _).mp c2)]
      rw [hone _ ht]
      exact tlD_ok hP hd hG hS hB hu hc hl ht (k := k0 + 1) (by omega) hnt1
    · rw [if_neg c2]
      have ht : s_read P l s = none := by
        unfold s_read
        rw [if_neg c1, if_neg (by rw [hnt1]; exact fun q => c2 ((aO (k0 + 1) (by omega) _).mpr q))]
      rw [hnone ht]
      exact ⟨cF.rf, hB⟩
theorem go_L {P : SP} (hP : sOK P) {nt0 : Int32} {G : (Nat → Nat → Int32) → (Nat → Int32) → Int32 → (Nat → Nat → Int32) × (Nat → Int32)} {K : List Int32 → SS → SB → SB} {d : Nat} (hd : d < 8) {w : List Int32} {s : SS} {b0 : Nat → Nat → Int32} {c0 : Nat → Int32}
    (hG : ∀ (w : List Int32) (t : SS) (b : SB) (bR : Nat → Nat → Int32) (cR : Nat → Int32), cS P nt0 bR cR (d + 1) w t → cB bR cR b → unr t.2.2.2 (pN P) + (d + 1) ≤ 8 → unr t.2.2.2 (pN P) < unr s.2.2.2 (pN P) → cF (d + 1) bR cR (G bR cR (nI (d + 1))).1 (G bR cR (nI (d + 1))).2 ∧ cB (G bR cR (nI (d + 1))).1 (G bR cR (nI (d + 1))).2 (K w t b)) (hu : unr s.2.2.2 (pN P) + d ≤ 8) :
    ∀ (m n : Nat) (bR : Nat → Nat → Int32) (cR : Nat → Int32) (b : SB), m ≤ 4 → m < n → cS P nt0 bR cR d w s → cB bR cR b → cF d bR cR (F_X4_goDeeperB_L17 G b0 c0 (nI d) n bR cR (nI (4 - m))).1 (F_X4_goDeeperB_L17 G b0 c0 (nI d) n bR cR (nI (4 - m))).2 ∧ cB (F_X4_goDeeperB_L17 G b0 c0 (nI d) n bR cR (nI (4 - m))).1 (F_X4_goDeeperB_L17 G b0 c0 (nI d) n bR cR (nI (4 - m))).2 (s_cols P K w s m b) := by
  intro m
  induction m with
  | zero =>
    intro n bR cR b _ hn hS hB
    match n, hn with
    | n + 1, _ =>
      have e : F_X4_goDeeperB_L17 G b0 c0 (nI d) (n + 1) bR cR (nI (4 - 0)) = (bR, cR) := by
        rw [F_X4_goDeeperB_L17, if_pos (by decide)]
      rw [e]
      exact ⟨cF.rf, hB⟩
  | succ m ih =>
    intro n bR cR b hm hn hS hB
    match n, hn with
    | n + 1, hn =>
      have hc3 : 4 - (m + 1) = 3 - m := by omega
      rw [hc3]
      have aN := hS.2.2.1 (3 - m) (by omega)
      have e : F_X4_goDeeperB_L17 G b0 c0 (nI d) (n + 1) bR cR (nI (3 - m)) = if bR 3 (3 - m) = -9 then F_X4_goDeeperB_L17 G b0 c0 (nI d) n bR cR (nI (4 - m)) else F_X4_goDeeperB_L17 G b0 c0 (nI d) n (F_X4_tryLine G bR cR (nI d) (nI (3 - m)) (bR 3 (3 - m))).1 (F_X4_tryLine G bR cR (nI d) (nI (3 - m)) (bR 3 (3 - m))).2 (nI (4 - m)) := by
        rw [F_X4_goDeeperB_L17, if_neg (by
          intro q
          have := (nI_leI (a := 4) (b := 3 - m) (by omega) (by omega)).mp q
          omega)]
        dsimp only
        rw [q_at (k := 4) (i := 3 - m) (by omega) (by omega), nI_1, show 3 - m + 1 = 4 - m by omega]
      rw [e]
      show _ ∧ cB _ _ (s_cols P K w s m (s_one P K w s (nI (3 - m)) b))
      cases hl : s_line P s.2.2.2 (nI (3 - m)) with
      | none =>
        rw [hl] at aN
        rw [if_pos (show bR 3 (3 - m) = -9 from aN)]
        have hst : s_one P K w s (nI (3 - m)) b = b := by unfold s_one; rw [s_step_n hl]
        rw [hst]
        exact ih n bR cR b (by omega) (by omega) hS hB
      | some l =>
        rw [hl] at aN
        have hl8 := (s_line_some hl).1
        have h8 := hP.1
        have aN' : bR 3 (3 - m) = nI l := aN
        rw [aN', if_neg (eo_n9 (by omega))]
        obtain ⟨h1, h2⟩ := tl_ok hP hd hG hS hB hu (by omega) hl
        obtain ⟨h3, h4⟩ := ih n _ _ _ (by omega) (by omega) (hS.of h1) h2
        exact ⟨h1.tr h3, h4⟩
theorem hl_ok {P : SP} (hP : sOK P) {nt0 : Int32} {d : Nat} (hd : d < 8) {w : List Int32} {s : SS} {b : SB} {bR : Nat → Nat → Int32} {cR : Nat → Int32} (hS : cS P nt0 bR cR d w s) (hB : cB bR cR b) (h : ¬ F_X4_isHopeless bR cR (nI d) = 0) : s_hl P w s b := by
  obtain ⟨⟨-, -, -, a8⟩, ⟨a12, -⟩, -, -, -, -, -, aW⟩ := hS
  obtain ⟨b14, b13, b8, -⟩ := hB
  have bs := s_b hP s.2.2.2
  have hx : (bR 8 d + cR 12).toInt = s_val P s.2.2.2 + s_open P s.2.2.2 := by
    rw [← a8, ← a12]
    exact i_add rfl (by omega) (by omega)
  have e : F_X4_isHopeless bR cR (nI d) = if bR 8 d + cR 12 < cR 14 then 1 else if bR 8 d + cR 12 = cR 14 then (if nI (d + 1) < cR 13 then 0 else 1) else 0 := by
    unfold F_X4_isHopeless
    dsimp only
    rw [q_at (k := 9) (i := d) (by omega) (by omega), nI_1]
  rw [e] at h
  unfold s_hl
  by_cases c1 : bR 8 d + cR 12 < cR 14
  · left
    have := i_lt c1
    omega
  · rw [if_neg c1] at h
    by_cases c2 : bR 8 d + cR 12 = cR 14
    · rw [if_pos c2] at h
      right
      have := i_eq c2
      refine ⟨by omega, ?_⟩
      by_cases c3 : nI (d + 1) < cR 13
      · rw [if_pos c3] at h
        exact absurd rfl h
      · rw [b13, nI_ltI (by omega) (by omega)] at c3
        omega
    · rw [if_neg c2] at h
      exact absurd rfl h
/-- THE CLASS'S SEARCH: from a depth on it is the walk -/
theorem go_ok {P : SP} (hP : sOK P) {nt0 : Int32} : ∀ (g f d : Nat) (w : List Int32) (s : SS) (b : SB) (bR : Nat → Nat → Int32) (cR : Nat → Int32), unr s.2.2.2 (pN P) < g → unr s.2.2.2 (pN P) < f → unr s.2.2.2 (pN P) + d ≤ 8 → cS P nt0 bR cR d w s → cB bR cR b → cF d bR cR (F_X4_goDeeper g bR cR (nI d)).1 (F_X4_goDeeper g bR cR (nI d)).2 ∧ cB (F_X4_goDeeper g bR cR (nI d)).1 (F_X4_goDeeper g bR cR (nI d)).2 (s_walk P f w s b) := by
  intro g
  induction g with
  | zero => intro f d w s b bR cR h; exact absurd h (Nat.not_lt_zero _)
  | succ g ih =>
    intro f d w s b bR cR hg hf hu hS hB
    obtain ⟨f', rfl⟩ : ∃ f', f = f' + 1 := ⟨f - 1, by omega⟩
    have e : F_X4_goDeeper (g + 1) bR cR (nI d) = if 8 ≤ nI d then (bR, cR) else if F_X4_isHopeless bR cR (nI d) = 0 then F_X4_goDeeperB_L17 (F_X4_goDeeper g) bR cR (nI d) ((((4 : Int32).toInt - (0 : Int32).toInt).toNat) + 1) bR cR 0 else (bR, cR) := rfl
    rw [e]
    by_cases c1 : 8 ≤ nI d
    · rw [if_pos c1]
      have hd : 8 ≤ d := (nI_leI (a := 8) (b := d) (by omega) (by omega)).mp c1
      have h0 : s_walk P (f' + 1) w s b = b := s_cols_b (fun c => by unfold s_one; rw [s_full hP (by omega)]) 4
      rw [h0]
      exact ⟨cF.rf, hB⟩
    · rw [if_neg c1]
      have hd : d < 8 := by
        rcases Nat.lt_or_ge d 8 with q | q
        · exact q
        · exact absurd ((nI_leI (a := 8) (b := d) (by omega) (by omega)).mpr q) c1
      by_cases c2 : F_X4_isHopeless bR cR (nI d) = 0
      · rw [if_pos c2]
        exact go_L hP hd (K := s_walk P f') (fun w t b bR cR h1 h2 h3 h4 => ih f' (d + 1) w t b bR cR (by omega) (by omega) h3 h1 h2) hu 4 _ bR cR b (by omega) (by decide) hS hB
      · rw [if_neg c2, s_prune hP (f' + 1) w s b (hl_ok hP hd hS hB c2)]
        exact ⟨cF.rf, hB⟩
