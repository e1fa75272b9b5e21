/-! the search told once: what both sides come to -/
abbrev SP : Type := (Nat → Int32) × Nat × (Int32 → Bool) × (Nat → Int32) × Int32 × (Int32 → Int32 → Bool) × (Nat → Int)
def pCol (P : SP) : Nat → Int32 := P.1
def pN (P : SP) : Nat := P.2.1
def pVis (P : SP) : Int32 → Bool := P.2.2.1
def pTk (P : SP) : Nat → Int32 := P.2.2.2.1
def pNv (P : SP) : Int32 := P.2.2.2.2.1
def pOk (P : SP) : Int32 → Int32 → Bool := P.2.2.2.2.2.1
def pW (P : SP) : Nat → Int := P.2.2.2.2.2.2
/-- second, on, noticed, read -/
abbrev SS : Type := Int32 × Int32 × Int32 × Int32
/-- the worth, what is read, the way of the best -/
abbrev SB : Type := Int × Int32 × List Int32
def s_line (P : SP) (rd c : Int32) : Option Nat := if pVis P c = true then fr (un (pCol P) rd c) (pN P) 0 else none
def s_read (P : SP) (l : Nat) (s : SS) : Option SS :=
  if s.2.1 + pTk P l ≤ pNv P then
    (if pOk P (s.1 + pTk P l) s.2.2.1 = true then some (s.1 + pTk P l, s.2.1 + pTk P l, s.2.2.1, s.2.2.2 ||| ((1 : Int32) <<< (nI l &&& 31))) else none)
  else
    (if pOk P (s.1 + pTk P l) (s.2.2.1 + 1) = true then some (s.1 + pTk P l, 0, s.2.2.1 + 1, s.2.2.2 ||| ((1 : Int32) <<< (nI l &&& 31))) else none)
def s_step (P : SP) (c : Int32) (s : SS) : Option SS := match s_line P s.2.2.2 c with
  | none => none
  | some l => s_read P l s
def s_sum (g : Nat → Int) (Q : Nat → Bool) : Nat → Int
  | 0 => 0
  | k + 1 => s_sum g Q k + (if Q k = true then g k else 0)
def s_val (P : SP) (rd : Int32) : Int := s_sum (pW P) (fun l => bt rd l) (pN P)
def s_open (P : SP) (rd : Int32) : Int := s_sum (pW P) (fun l => pVis P (pCol P l) && !bt rd l) (pN P)
def s_keep (P : SP) (w : List Int32) (s : SS) (b : SB) : SB := if s_val P s.2.2.2 < b.1 ∨ (s_val P s.2.2.2 = b.1 ∧ b.2.2.length ≤ w.length) then b else (s_val P s.2.2.2, s.2.2.2, w)
def s_one (P : SP) (G : List Int32 → SS → SB → SB) (w : List Int32) (s : SS) (c : Int32) (b : SB) : SB := match s_step P c s with
  | none => b
  | some t => G (w ++ [c]) t (s_keep P (w ++ [c]) t b)
def s_cols (P : SP) (G : List Int32 → SS → SB → SB) (w : List Int32) (s : SS) : Nat → SB → SB
  | 0, b => b
  | m + 1, b => s_cols P G w s m (s_one P G w s (nI (3 - m)) b)
def s_walk (P : SP) : Nat → List Int32 → SS → SB → SB
  | 0, _, _, b => b
  | f + 1, w, s, b => s_cols P (s_walk P f) w s 4 b
theorem s_sum_c {g : Nat → Int} {Q Q' : Nat → Bool} : ∀ k : Nat, (∀ l, l < k → Q l = Q' l) → s_sum g Q k = s_sum g Q' k := by
  intro k
  induction k with
  | zero => intros; rfl
  | succ k ih =>
    intro h
    show s_sum g Q k + _ = s_sum g Q' k + _
    rw [ih (fun l hl => h l (by omega)), h k (by omega)]
theorem s_sum_add {g : Nat → Int} {Q Q' : Nat → Bool} {l : Nat} (h0 : Q l = false) (h1 : Q' l = true) : ∀ k : Nat, l < k → (∀ i, i < k → i ≠ l → Q i = Q' i) → s_sum g Q' k = s_sum g Q k + g l := by
  intro k
  induction k with
  | zero => intro h; omega
  | succ k ih =>
    intro hk h
    show s_sum g Q' k + _ = s_sum g Q k + _ + _
    by_cases e : k = l
    · subst e
      rw [h0, h1, if_pos rfl, if_neg (by decide), s_sum_c (Q := Q) (Q' := Q') k (fun i hi => h i (by omega) (by omega)), Int.add_zero]
    · rw [ih (by omega) (fun i hi => h i (by omega)), h k (by omega) e]
      generalize (if Q' k = true then g k else 0) = z
      omega
theorem s_sum_0 {g : Nat → Int} {Q : Nat → Bool} : ∀ k : Nat, (∀ l, l < k → 0 ≤ g l) → 0 ≤ s_sum g Q k := by
  intro k
  induction k with
  | zero => intro _; exact Int.le_refl 0
  | succ k ih =>
    intro h
    show 0 ≤ s_sum g Q k + _
    have h1 := ih (fun l hl => h l (by omega))
    have h2 := h k (by omega)
    split <;> omega
theorem s_sum_le {g : Nat → Int} {Q : Nat → Bool} : ∀ k : Nat, (∀ l, l < k → 0 ≤ g l ∧ g l ≤ 100) → s_sum g Q k ≤ 100 * k := by
  intro k
  induction k with
  | zero => intro _; exact Int.le_refl 0
  | succ k ih =>
    intro h
    show s_sum g Q k + _ ≤ 100 * ((k + 1 : Nat) : Int)
    have h1 := ih (fun l hl => h l (by omega))
    have h2 := h k (by omega)
    split <;> omega
/-- the worths are no numbers below 0, and few lines -/
def sOK (P : SP) : Prop := pN P ≤ 8 ∧ ∀ l, l < pN P → 0 ≤ pW P l ∧ pW P l ≤ 100
theorem s_line_some {P : SP} {rd c : Int32} {l : Nat} (h : s_line P rd c = some l) : l < pN P ∧ pVis P c = true ∧ bt rd l = false ∧ pCol P l = c ∧ ∀ i, i < l → un (pCol P) rd c i = false := by
  unfold s_line at h
  by_cases c1 : pVis P c = true
  · rw [if_pos c1] at h
    obtain ⟨h1, h2, h3⟩ := fr_some _ _ _ h
    rw [un_d, Bool.and_eq_true, decide_eq_true_iff, Bool.not_eq_true'] at h2
    exact ⟨by omega, c1, h2.2, h2.1, fun i hi => h3 i (by omega) hi⟩
  · rw [if_neg c1] at h; cases h
theorem s_read_rd {P : SP} {l : Nat} {s t : SS} (h : s_read P l s = some t) : t.2.2.2 = (s.2.2.2 ||| ((1 : Int32) <<< (nI l &&& 31))) := by
  unfold s_read at h
  split at h
  · split at h
    · cases h; rfl
    · cases h
  · split at h
    · cases h; rfl
    · cases h
theorem s_step_some {P : SP} {c : Int32} {s t : SS} (h : s_step P c s = some t) : ∃ l, s_line P s.2.2.2 c = some l ∧ s_read P l s = some t := by
  unfold s_step at h
  cases e : s_line P s.2.2.2 c with
  | none => rw [e] at h; cases h
  | some l => rw [e] at h; exact ⟨l, rfl, h⟩
theorem s_step_i {P : SP} {c : Int32} {s : SS} {l : Nat} (h : s_line P s.2.2.2 c = some l) : s_step P c s = s_read P l s := by
  unfold s_step
  rw [h]
theorem s_step_n {P : SP} {c : Int32} {s : SS} (h : s_line P s.2.2.2 c = none) : s_step P c s = none := by
  unfold s_step
  rw [h]
theorem s_set {P : SP} (hP : sOK P) {rd : Int32} {l : Nat} (hl : l < pN P) (hb : bt rd l = false) (hv : pVis P (pCol P l) = true) : s_val P (rd ||| ((1 : Int32) <<< (nI l &&& 31))) = s_val P rd + pW P l ∧ s_open P rd = s_open P (rd ||| ((1 : Int32) <<< (nI l &&& 31))) + pW P l ∧ unr (rd ||| ((1 : Int32) <<< (nI l &&& 31))) (pN P) + 1 = unr rd (pN P) := by
  have h8 := hP.1
  have hs : ∀ i, i < pN P → bt (rd ||| ((1 : Int32) <<< (nI l &&& 31))) i = (bt rd i || decide (i = l)) := fun i hi => b_set (by omega) (by omega)
  refine ⟨?_, ?_, unr_set hb _ (by omega) hl⟩
  · exact s_sum_add (Q := fun l => bt rd l) (Q' := fun i => bt (rd ||| ((1 : Int32) <<< (nI l &&& 31))) i) (l := l) hb (by show bt (rd ||| ((1 : Int32) <<< (nI l &&& 31))) l = true; rw [hs l hl, decide_eq_true rfl, Bool.or_true]) (pN P) hl (fun i hi hne => by show bt rd i = bt (rd ||| ((1 : Int32) <<< (nI l &&& 31))) i; rw [hs i hi, decide_eq_false hne, Bool.or_false])
  · exact s_sum_add (Q' := fun i => pVis P (pCol P i) && !bt rd i) (Q := fun i => pVis P (pCol P i) && !bt (rd ||| ((1 : Int32) <<< (nI l &&& 31))) i) (l := l) (by show (pVis P (pCol P l) && !bt (rd ||| ((1 : Int32) <<< (nI l &&& 31))) l) = false; rw [hs l hl, decide_eq_true rfl, Bool.or_true, Bool.not_true, Bool.and_false]) (by show (pVis P (pCol P l) && !bt rd l) = true; rw [hb, hv]; rfl) (pN P) hl (fun i hi hne => by show (pVis P (pCol P i) && !bt (rd ||| ((1 : Int32) <<< (nI l &&& 31))) i) = (pVis P (pCol P i) && !bt rd i); rw [hs i hi, decide_eq_false hne, Bool.or_false])
theorem s_step_v {P : SP} (hP : sOK P) {c : Int32} {s t : SS} (h : s_step P c s = some t) : s_val P t.2.2.2 + s_open P t.2.2.2 = s_val P s.2.2.2 + s_open P s.2.2.2 ∧ s_val P t.2.2.2 ≤ s_val P s.2.2.2 + s_open P s.2.2.2 ∧ s_val P s.2.2.2 ≤ s_val P t.2.2.2 ∧ unr t.2.2.2 (pN P) + 1 = unr s.2.2.2 (pN P) := by
  obtain ⟨l, h1, h2⟩ := s_step_some h
  obtain ⟨g1, g2, g3, g4, -⟩ := s_line_some h1
  have hr := s_read_rd h2
  obtain ⟨k1, k2, k3⟩ := s_set hP g1 g3 (by rw [g4]; exact g2)
  rw [← hr] at k1 k2 k3
  have h0 : 0 ≤ s_open P t.2.2.2 := s_sum_0 _ (fun l hl => (hP.2 l hl).1)
  have h9 := (hP.2 l g1).1
  exact ⟨by omega, by omega, by omega, k3⟩
theorem unr_0 {rd : Int32} : ∀ k : Nat, k ≤ 32 → unr rd k = 0 → ∀ i, i < k → bt rd i = true := by
  intro k
  induction k with
  | zero => intro _ _ i hi; omega
  | succ k ih =>
    intro hk h i hi
    rw [unr_s rd (by omega)] at h
    by_cases c : bt rd k = false
    · rw [if_pos c] at h; omega
    · by_cases e : i = k
      · subst e; exact Bool.of_not_eq_false c
      · exact ih (by omega) (by omega) i (by omega)
theorem s_full {P : SP} (hP : sOK P) {c : Int32} {s : SS} (h : unr s.2.2.2 (pN P) = 0) : s_step P c s = none := by
  cases e : s_step P c s with
  | none => rfl
  | some t =>
    have := (s_step_v hP e).2.2.2
    omega
theorem s_cols_b {P : SP} {G : List Int32 → SS → SB → SB} {w : List Int32} {s : SS} {b : SB} (h : ∀ c, s_one P G w s c b = b) : ∀ m, s_cols P G w s m b = b := by
  intro m
  induction m with
  | zero => rfl
  | succ m ih => show s_cols P G w s m (s_one P G w s (nI (3 - m)) b) = b; rw [h]; exact ih
/-- nothing behind can be better -/
def s_hl (P : SP) (w : List Int32) (s : SS) (b : SB) : Prop := s_val P s.2.2.2 + s_open P s.2.2.2 < b.1 ∨ (s_val P s.2.2.2 + s_open P s.2.2.2 = b.1 ∧ b.2.2.length ≤ w.length + 1)
theorem s_prune {P : SP} (hP : sOK P) : ∀ (f : Nat) (w : List Int32) (s : SS) (b : SB), s_hl P w s b → s_walk P f w s b = b := by
  intro f
  induction f with
  | zero => intros; rfl
  | succ f ih =>
    intro w s b h
    refine s_cols_b (fun c => ?_) 4
    unfold s_one
    cases e : s_step P c s with
    | none => rfl
    | some t =>
      obtain ⟨h1, h2, -, -⟩ := s_step_v hP e
      have hk : s_keep P (w ++ [c]) t b = b := by
        unfold s_keep
        rw [if_pos]
        rw [List.length_append, List.length_singleton]
        unfold s_hl at h
        rcases h with h | ⟨h, h'⟩
        · left; omega
        · by_cases g : s_val P t.2.2.2 < b.1
          · exact Or.inl g
          · exact Or.inr ⟨by omega, h'⟩
      show s_walk P f (w ++ [c]) t (s_keep P (w ++ [c]) t b) = b
      rw [hk]
      refine ih (w ++ [c]) t b ?_
      unfold s_hl at h ⊢
      rw [h1, List.length_append, List.length_singleton]
      rcases h with h | ⟨h, h'⟩
      · exact Or.inl h
      · exact Or.inr ⟨h, by omega⟩
/-- the greatest worth alone -/
def s_mxc (P : SP) (G : SS → Int) (s : SS) : Nat → Int
  | 0 => s_val P s.2.2.2
  | m + 1 => max (s_mxc P G s m) (match s_step P (nI (3 - m)) s with
    | none => s_val P s.2.2.2
    | some t => G t)
def s_mx (P : SP) : Nat → SS → Int
  | 0, s => s_val P s.2.2.2
  | f + 1, s => s_mxc P (s_mx P f) s 4
theorem s_mxc_0 {P : SP} {G : SS → Int} {s : SS} : ∀ m, s_val P s.2.2.2 ≤ s_mxc P G s m := by
  intro m
  induction m with
  | zero => exact Int.le_refl _
  | succ m ih => exact Int.le_trans ih (Int.le_max_left _ _)
theorem s_mx_0 {P : SP} {f : Nat} {s : SS} : s_val P s.2.2.2 ≤ s_mx P f s := by
  cases f with
  | zero => exact Int.le_refl _
  | succ f => exact s_mxc_0 4
theorem s_keep_1 {P : SP} {w : List Int32} {s : SS} {b : SB} : (s_keep P w s b).1 = max b.1 (s_val P s.2.2.2) := by
  unfold s_keep
  split
  · rename_i h
    rw [Int.max_eq_left]
    rcases h with h | h <;> omega
  · rename_i h
    show s_val P s.2.2.2 = _
    rw [Int.max_eq_right]
    have : ¬ s_val P s.2.2.2 < b.1 := fun q => h (Or.inl q)
    omega
theorem s_cols_1 {P : SP} {G : List Int32 → SS → SB → SB} {g : SS → Int} {w : List Int32} {s : SS} (hG : ∀ w t b, s_val P t.2.2.2 ≤ b.1 → (G w t b).1 = max b.1 (g t)) (hg : ∀ t, s_val P t.2.2.2 ≤ g t) : ∀ (m : Nat) (b : SB), s_val P s.2.2.2 ≤ b.1 → (s_cols P G w s m b).1 = max b.1 (s_mxc P g s m) := by
  intro m
  induction m with
  | zero =>
    intro b h
    show b.1 = max b.1 (s_val P s.2.2.2)
    rw [Int.max_eq_left h]
  | succ m ih =>
    intro b h
    show (s_cols P G w s m (s_one P G w s (nI (3 - m)) b)).1 = max b.1 (max (s_mxc P g s m) _)
    unfold s_one
    cases e : s_step P (nI (3 - m)) s with
    | none =>
      show (s_cols P G w s m b).1 = max b.1 (max (s_mxc P g s m) (s_val P s.2.2.2))
      rw [ih b h, Int.max_eq_left (a := s_mxc P g s m) (s_mxc_0 m)]
    | some t =>
      show (s_cols P G w s m (G (w ++ [nI (3 - m)]) t (s_keep P (w ++ [nI (3 - m)]) t b))).1 = max b.1 (max (s_mxc P g s m) (g t))
      have h1 : s_val P t.2.2.2 ≤ (s_keep P (w ++ [nI (3 - m)]) t b).1 := by rw [s_keep_1]; exact Int.le_max_right _ _
      have h2 := hG (w ++ [nI (3 - m)]) t (s_keep P (w ++ [nI (3 - m)]) t b) h1
      have h3 := hg t
      rw [s_keep_1] at h2
      rw [ih _ (by rw [h2]; omega), h2]
      omega
theorem s_walk_1 {P : SP} : ∀ (f : Nat) (w : List Int32) (s : SS) (b : SB), s_val P s.2.2.2 ≤ b.1 → (s_walk P f w s b).1 = max b.1 (s_mx P f s) := by
  intro f
  induction f with
  | zero =>
    intro w s b h
    show b.1 = max b.1 (s_val P s.2.2.2)
    rw [Int.max_eq_left h]
  | succ f ih =>
    intro w s b h
    exact s_cols_1 (fun w t b h => ih w t b h) (fun t => s_mx_0) 4 b h
/-- a greater BASE cuts no row short -/
theorem s_mono {P P' : SP} (h1 : P.1 = P'.1) (h2 : P.2.1 = P'.2.1) (h3 : P.2.2.1 = P'.2.2.1) (h4 : P.2.2.2.1 = P'.2.2.2.1) (h5 : P.2.2.2.2.1 = P'.2.2.2.2.1) (h6 : P.2.2.2.2.2.2 = P'.2.2.2.2.2.2) (ho : ∀ x y, pOk P x y = true → pOk P' x y = true) : ∀ (f : Nat) (s : SS), s_mx P f s ≤ s_mx P' f s := by
  obtain ⟨a1, a2, a3, a4, a5, a6, a7⟩ := P
  obtain ⟨b1, b2, b3, b4, b5, b6, b7⟩ := P'
  dsimp only at h1 h2 h3 h4 h5 h6
  subst h1 h2 h3 h4 h5 h6
  have hs : ∀ c s t, s_step (a1, a2, a3, a4, a5, a6, a7) c s = some t → s_step (a1, a2, a3, a4, a5, b6, a7) c s = some t := by
    intro c s t h
    obtain ⟨l, g1, g2⟩ := s_step_some h
    rw [s_step_i (l := l) (show s_line (a1, a2, a3, a4, a5, b6, a7) s.2.2.2 c = some l from g1)]
    unfold s_read at g2 ⊢
    by_cases c1 : s.2.1 + pTk (a1, a2, a3, a4, a5, a6, a7) l ≤ pNv (a1, a2, a3, a4, a5, a6, a7)
    · rw [if_pos c1] at g2
      rw [if_pos (show s.2.1 + pTk (a1, a2, a3, a4, a5, b6, a7) l ≤ pNv (a1, a2, a3, a4, a5, b6, a7) from c1)]
      by_cases c2 : pOk (a1, a2, a3, a4, a5, a6, a7) (s.1 + pTk (a1, a2, a3, a4, a5, a6, a7) l) s.2.2.1 = true
      · rw [if_pos c2] at g2
        rw [if_pos (show pOk (a1, a2, a3, a4, a5, b6, a7) (s.1 + pTk (a1, a2, a3, a4, a5, b6, a7) l) s.2.2.1 = true from ho _ _ c2)]
        exact g2
      · rw [if_neg c2] at g2; cases g2
    · rw [if_neg c1] at g2
      rw [if_neg (show ¬ s.2.1 + pTk (a1, a2, a3, a4, a5, b6, a7) l ≤ pNv (a1, a2, a3, a4, a5, b6, a7) from c1)]
      by_cases c2 : pOk (a1, a2, a3, a4, a5, a6, a7) (s.1 + pTk (a1, a2, a3, a4, a5, a6, a7) l) (s.2.2.1 + 1) = true
      · rw [if_pos c2] at g2
        rw [if_pos (show pOk (a1, a2, a3, a4, a5, b6, a7) (s.1 + pTk (a1, a2, a3, a4, a5, b6, a7) l) (s.2.2.1 + 1) = true from ho _ _ c2)]
        exact g2
      · rw [if_neg c2] at g2; cases g2
  intro f
  induction f with
  | zero => intro s; exact Int.le_refl _
  | succ f ih =>
    intro s
    show s_mxc _ _ s 4 ≤ s_mxc _ _ s 4
    generalize 4 = m
    induction m with
    | zero => exact Int.le_refl _
    | succ m ihm =>
      show max (s_mxc _ _ s m) _ ≤ max (s_mxc _ _ s m) _
      have h0 : s_val (a1, a2, a3, a4, a5, a6, a7) s.2.2.2 ≤ s_mxc (a1, a2, a3, a4, a5, b6, a7) (s_mx (a1, a2, a3, a4, a5, b6, a7) f) s m := s_mxc_0 (P := (a1, a2, a3, a4, a5, b6, a7)) m
      cases e : s_step (a1, a2, a3, a4, a5, a6, a7) (nI (3 - m)) s with
      | none =>
        refine Int.max_le.mpr ⟨Int.le_trans ihm (Int.le_max_left _ _), Int.le_trans h0 (Int.le_max_left _ _)⟩
      | some t =>
        rw [hs _ _ _ e]
        exact Int.max_le.mpr ⟨Int.le_trans ihm (Int.le_max_left _ _), Int.le_trans (ih t) (Int.le_max_right _ _)⟩
/-- the lines of a way -/
def s_rep (P : SP) (rd : Int32) : List Int32 → Int32
  | [] => rd
  | c :: w => s_rep P (match fr (un (pCol P) rd c) (pN P) 0 with
    | none => rd
    | some l => rd ||| ((1 : Int32) <<< (nI l &&& 31))) w
theorem s_rep_app {P : SP} : ∀ (w : List Int32) (rd c : Int32), s_rep P rd (w ++ [c]) = s_rep P (s_rep P rd w) [c] := by
  intro w
  induction w with
  | nil => intros; rfl
  | cons d w ih => intro rd c; exact ih _ c
theorem s_step_rep {P : SP} {c : Int32} {s t : SS} (h : s_step P c s = some t) : t.2.2.2 = s_rep P s.2.2.2 [c] := by
  obtain ⟨l, h1, h2⟩ := s_step_some h
  have hr := s_read_rd h2
  unfold s_line at h1
  by_cases c1 : pVis P c = true
  · rw [if_pos c1] at h1
    show _ = (match fr (un (pCol P) s.2.2.2 c) (pN P) 0 with
    | none => s.2.2.2
    | some l => s.2.2.2 ||| ((1 : Int32) <<< (nI l &&& 31)))
    rw [h1]
    exact hr
  · rw [if_neg c1] at h1; cases h1
/-- the best is what its way says, and no longer than there are lines -/
def s_bi (P : SP) (rd0 : Int32) (b : SB) : Prop := b.2.1 = s_rep P rd0 b.2.2 ∧ b.1 = s_val P b.2.1 ∧ b.2.2.length ≤ 8
theorem s_walk_bi {P : SP} (hP : sOK P) {rd0 : Int32} : ∀ (f : Nat) (w : List Int32) (s : SS) (b : SB), s.2.2.2 = s_rep P rd0 w → unr s.2.2.2 (pN P) + w.length ≤ 8 → s_bi P rd0 b → s_bi P rd0 (s_walk P f w s b) := by
  intro f
  induction f with
  | zero => intro w s b _ _ h; exact h
  | succ f ih =>
    intro w s b hs hu hb
    show s_bi P rd0 (s_cols P (s_walk P f) w s 4 b)
    generalize 4 = m
    induction m generalizing b with
    | zero => exact hb
    | succ m ihm =>
      refine ihm (s_one P (s_walk P f) w s (nI (3 - m)) b) ?_
      unfold s_one
      cases e : s_step P (nI (3 - m)) s with
      | none => exact hb
      | some t =>
        have h1 : t.2.2.2 = s_rep P rd0 (w ++ [nI (3 - m)]) := by rw [s_step_rep e, s_rep_app, hs]
        have h2 := (s_step_v hP e).2.2.2
        refine ih (w ++ [nI (3 - m)]) t _ h1 (by rw [List.length_append, List.length_singleton]; omega) ?_
        unfold s_keep
        split
        · exact hb
        · exact ⟨h1, rfl, by show (w ++ [nI (3 - m)]).length ≤ 8; rw [List.length_append, List.length_singleton]; omega⟩
