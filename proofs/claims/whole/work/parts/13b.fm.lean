theorem n6_0 {d : Nat} (h : d < 1000) : (6 * nI d).toNatClampNeg = 6 * d := by rw [show (6 : Int32) * nI d = nI (6 * d) from pk_mul 6 d, nI_clamp (by omega)]
theorem n6_k {d k : Nat} {x : Int32} (hx : x = nI k) (h : d < 1000) (hk : k < 10) : (6 * nI d + x).toNatClampNeg = 6 * d + k := by rw [hx, show (6 : Int32) * nI d = nI (6 * d) from pk_mul 6 d, nI_add, nI_clamp (by omega)]
section PL
variable (o : Nat → Int32) (a : Nat → Nat → Int32) (p r x1 x3 x5 x7 x9 x11 : Int32)
theorem pl_b : ∀ (n : Nat) (f : Nat → Int32) (v : Int32), F_X7_piles_L146b o a p r x1 x3 x5 x7 x9 x11 n f v = F_X7_piles_L146 o a p r x1 x3 x5 x7 x9 x11 n f v := by
  intro n
  induction n with
  | zero => intros; rfl
  | succ n ih => intro f v; rw [F_X7_piles_L146b, F_X7_piles_L146]; dsimp only; rw [ih]
theorem pl_c : ∀ (n : Nat) (f : Nat → Int32) (v : Int32), F_X7_piles_L146c o a p r x1 x3 x5 x7 x9 x11 n f v = F_X7_piles_L146 o a p r x1 x3 x5 x7 x9 x11 n f v := by
  intro n
  induction n with
  | zero => intros; rfl
  | succ n ih => intro f v; rw [F_X7_piles_L146c, F_X7_piles_L146]; dsimp only; rw [ih]
end PL
/-- a pile with one level more -/
def plU (o : Nat → Int32) (f : Nat → Int32) (d : Nat) : Nat → Int32 := upd (upd (upd (upd (upd (upd f (6 * d) (o 31)) (6 * d + 1) (o 32)) (6 * d + 2) (o 33)) (6 * d + 3) (o 34)) (6 * d + 4) (o 35)) (6 * d + 5) 0
theorem pl_L (o : Nat → Int32) (a : Nat → Nat → Int32) (r x1 x3 x5 x7 x9 x11 : Int32) {d : Nat} (hd : d < 1000) : ∀ (m k : Nat), k + m = d → ∀ (n : Nat) (f : Nat → Int32), m < n → ∃ f', F_X7_piles_L146 o a (nI d) r x1 x3 x5 x7 x9 x11 n f (nI k) = (r, nI d, o 34, upd (upd (upd (upd (upd (upd (a 38) x1.toNatClampNeg (o 31)) x3.toNatClampNeg (o 32)) x5.toNatClampNeg (o 33)) x7.toNatClampNeg (o 34)) x9.toNatClampNeg (o 35)) x11.toNatClampNeg 0, f') ∧ ∀ j, f' j = if k ≤ j ∧ j < d then a 39 j else f j := by
  intro m
  induction m with
  | zero =>
    intro k hk n f hn
    match n, hn with
    | n + 1, _ =>
      refine ⟨f, ?_, fun j => by rw [if_neg (by omega)]⟩
      rw [F_X7_piles_L146, if_pos (nI_le (by omega) (by omega))]
  | succ m ih =>
    intro k hk n f hn
    match n, hn with
    | n + 1, hn =>
      obtain ⟨f', e, h⟩ := ih (k + 1) (by omega) n (upd f k (a 39 k)) (by omega)
      refine ⟨f', ?_, fun j => ?_⟩
      · rw [F_X7_piles_L146, if_neg (nI_ge (by omega) (by omega))]
        dsimp only
        rw [nI_clamp (by omega), nI_1]
        exact e
      · rw [h j]
        by_cases e1 : j = k
        · subst e1; rw [if_neg (by omega), if_pos (by omega), pk_us]
        · rw [pk_un e1]
          by_cases e2 : k + 1 ≤ j ∧ j < d
          · rw [if_pos e2, if_pos (by omega)]
          · rw [if_neg e2, if_neg (by omega)]
/-- what piles leaves: the best so far, the pile with a level more, the best way -/
theorem pl_eq (o : Nat → Int32) (a : Nat → Nat → Int32) {d : Nat} (hd : d < 1000) : ∃ v f', F_X7_piles o a (nI d) = (if o 42 < 0 ∨ ¬ (v < o 41 ∨ (v = o 41 ∧ ¬ nI d < o 42)) then v else o 41, if o 42 < 0 ∨ ¬ (v < o 41 ∨ (v = o 41 ∧ ¬ nI d < o 42)) then nI d else o 42, if o 42 < 0 ∨ ¬ (v < o 41 ∨ (v = o 41 ∧ ¬ nI d < o 42)) then o 34 else o 43, plU o (a 38) d, f') ∧ v = F_X7_worthOfAll o (va_up a 38 (plU o (a 38) d)) (o 34) ∧ ((o 42 < 0 ∨ ¬ (v < o 41 ∨ (v = o 41 ∧ ¬ nI d < o 42)) → ∀ j, f' j = if j < d then a 39 j else a 40 j) ∧ (¬ (o 42 < 0 ∨ ¬ (v < o 41 ∨ (v = o 41 ∧ ¬ nI d < o 42))) → f' = a 40)) := by
  have hU : upd (upd (upd (upd (upd (upd (a 38) (6 * nI d).toNatClampNeg (o 31)) (6 * nI d + 1).toNatClampNeg (o 32)) (6 * nI d + 2).toNatClampNeg (o 33)) (6 * nI d + 3).toNatClampNeg (o 34)) (6 * nI d + 4).toNatClampNeg (o 35)) (6 * nI d + 5).toNatClampNeg 0 = plU o (a 38) d := by
    rw [n6_0 hd, n6_k (x := 1) (k := 1) rfl hd (by omega), n6_k (x := 2) (k := 2) rfl hd (by omega), n6_k (x := 3) (k := 3) rfl hd (by omega), n6_k (x := 4) (k := 4) rfl hd (by omega), n6_k (x := 5) (k := 5) rfl hd (by omega)]
    rfl
  obtain ⟨f', e, h⟩ := pl_L o a (F_X7_worthOfAll o (va_up a 38 (plU o (a 38) d)) (o 34)) (6 * nI d) (6 * nI d + 1) (6 * nI d + 2) (6 * nI d + 3) (6 * nI d + 4) (6 * nI d + 5) hd d 0 (by omega) ((((nI d).toInt - (0 : Int32).toInt).toNat) + 1) (a 40) (by rw [nI_toInt (by omega), show (0 : Int32).toInt = 0 from rfl]; omega)
  rw [hU] at e
  have h' : ∀ j, f' j = if j < d then a 39 j else a 40 j := fun j => by
    rw [h j]
    by_cases c : j < d
    · rw [if_pos c, if_pos ⟨by omega, c⟩]
    · rw [if_neg c, if_neg (by omega)]
  generalize hv : F_X7_worthOfAll o (va_up a 38 (plU o (a 38) d)) (o 34) = v at *
  have hF : F_X7_piles o a (nI d) = if o 42 < 0 then (v, nI d, o 34, plU o (a 38) d, f') else if v < o 41 then (o 41, o 42, o 43, plU o (a 38) d, a 40) else if v = o 41 then (if nI d < o 42 then (v, nI d, o 34, plU o (a 38) d, f') else (o 41, o 42, o 43, plU o (a 38) d, a 40)) else (v, nI d, o 34, plU o (a 38) d, f') := by
    unfold F_X7_piles
    dsimp only
    rw [pl_b, pl_c, hU, hv, show (F_X7_piles_L146 o a (nI d) v (6 * nI d) (6 * nI d + 1) (6 * nI d + 2) (6 * nI d + 3) (6 * nI d + 4) (6 * nI d + 5) ((((nI d).toInt - (0 : Int32).toInt).toNat) + 1) (a 40) 0) = (v, nI d, o 34, plU o (a 38) d, f') from e]
  by_cases c1 : o 42 < 0
  · refine ⟨v, f', ?_, rfl, fun _ => h', fun c => absurd (Or.inl c1) c⟩
    rw [hF, if_pos c1, if_pos (Or.inl c1), if_pos (Or.inl c1), if_pos (Or.inl c1)]
  · rw [if_neg c1] at hF
    by_cases c2 : v < o 41 ∨ (v = o 41 ∧ ¬ nI d < o 42)
    · have c : ¬ (o 42 < 0 ∨ ¬ (v < o 41 ∨ (v = o 41 ∧ ¬ nI d < o 42))) := fun q => q.elim c1 (fun q => q c2)
      refine ⟨v, a 40, ?_, rfl, fun q => absurd q c, fun _ => rfl⟩
      rw [hF, if_neg c, if_neg c, if_neg c]
      rcases c2 with c2 | ⟨c2, c3⟩
      · rw [if_pos c2]
      · by_cases c4 : v < o 41
        · rw [if_pos c4]
        · rw [if_neg c4, if_pos c2, if_neg c3]
    · have c : o 42 < 0 ∨ ¬ (v < o 41 ∨ (v = o 41 ∧ ¬ nI d < o 42)) := Or.inr c2
      refine ⟨v, f', ?_, rfl, fun _ => h', fun q => absurd c q⟩
      rw [hF, if_pos c, if_pos c, if_pos c, if_neg (fun q => c2 (Or.inl q))]
      by_cases c3 : v = o 41
      · rw [if_pos c3, if_pos (Decidable.not_not.mp (fun q => c2 (Or.inr ⟨c3, q⟩)))]
      · rw [if_neg c3]
theorem upl_eq (o : Nat → Int32) (a : Nat → Nat → Int32) {d : Nat} (hd : d < 1000) : F_X7_unpiles o a (nI d) = (a 38 (6 * d), a 38 (6 * d + 1), a 38 (6 * d + 2), a 38 (6 * d + 3), a 38 (6 * d + 4)) := by
  unfold F_X7_unpiles
  dsimp only
  rw [n6_0 hd, n6_k (x := 1) (k := 1) rfl hd (by omega), n6_k (x := 2) (k := 2) rfl hd (by omega), n6_k (x := 3) (k := 3) rfl hd (by omega), n6_k (x := 4) (k := 4) rfl hd (by omega)]
theorem rd_or (o : Nat → Int32) (a : Nat → Nat → Int32) (l : Int32) : ¬ (F_X7_reads o a l).2.2.2.2 = 1 → (F_X7_reads o a l).2.2.2.1 = (o 34 ||| ((1 : Int32) <<< (l &&& 31))) := by
  unfold F_X7_reads
  dsimp only
  split
  · split
    · intro h; exact absurd rfl h
    · split
      · intro h; exact absurd rfl h
      · intro _; rfl
  · split
    · intro h; exact absurd rfl h
    · split
      · intro h; exact absurd rfl h
      · intro _; rfl
theorem fmS_c {f g : Nat → Int32} : ∀ k : Nat, (∀ i, i < k → f (6 * i + 5) = g (6 * i + 5)) → fmS f k = fmS g k := by
  intro k
  induction k with
  | zero => intros; rfl
  | succ k ih =>
    intro h
    unfold fmS
    rw [ih (fun i hi => h i (by omega)), h k (by omega)]
theorem fmS_s {f : Nat → Int32} {k : Nat} : fmS f (k + 1) = fmS f k + (5 - (f (6 * k + 5)).toInt.toNat) * 6 ^ (8 - k) := rfl
theorem fm_ix {v x4 x5 : Int32} {d : Nat} (hd : v = nI d) (h : d < 1000) (e4 : x4 = 6 * v) (e5 : x5 = x4 + 5) : x5.toNatClampNeg = 6 * d + 5 := by
  rw [e5, e4, hd]
  exact n6_k (x := 5) (k := 5) rfl h (by omega)
/-- a level's column goes on -/
theorem fm_next {N : Int32} {f : Nat → Int32} {v x4 x5 x6 x8 x9 x10 x11 : Int32} {nf : Nat} (c2 : ¬ v < 0) (h1 : -1 ≤ v.toInt ∧ v.toInt ≤ 8) (h2 : fmI N f v) (hm : fmM f v < nf + 1) (e4 : x4 = 6 * v) (e5 : x5 = x4 + 5) (e6 : x6 = f x5.toNatClampNeg) (c7 : ¬ x6 = 4) (e8 : x8 = 6 * v) (e9 : x9 = x8 + 5) (e10 : x10 = f x9.toNatClampNeg) (e11 : x11 = x10 + 1) : fmI N (upd f x9.toNatClampNeg x11) v ∧ fmM (upd f x9.toNatClampNeg x11) v + 6 ^ (8 - v.toInt.toNat) = fmM f v ∧ (0 ≤ x6.toInt ∧ x6.toInt ≤ 3) := by
  have h0 := i_nlt c2
  rw [show (0 : Int32).toInt = 0 from rfl] at h0
  obtain ⟨d, hd⟩ : ∃ d, d = v.toInt.toNat := ⟨_, rfl⟩
  have hv : v = nI d := by rw [hd]; exact x_nIt h0
  have i5 := fm_ix hv (by omega) e4 e5
  have i9 := fm_ix hv (by omega) e8 e9
  obtain ⟨⟨g1, g2⟩, g3⟩ := h2 d (by omega)
  rw [i5] at e6
  rw [i9] at e10
  have e106 : x10 = x6 := e10.trans e6.symm
  rw [← e6] at g1 g2
  have g4 : x6.toInt ≠ 4 := fun q => c7 (Int32.toInt_inj.mp q)
  have e11' : x11.toInt = x6.toInt + 1 := by rw [e11, e106]; exact i_add rfl (by rw [show (1 : Int32).toInt = 1 from rfl]; omega) (by rw [show (1 : Int32).toInt = 1 from rfl]; omega)
  have hne : ∀ i : Nat, i ≠ d → upd f (6 * d + 5) x11 (6 * i + 5) = f (6 * i + 5) := fun i hi => pk_un (by omega)
  refine ⟨fun i hi => ?_, ?_, g1, by omega⟩
  · rw [i9]
    rw [pk_un (j := 6 * i + 3) (by omega)]
    by_cases c : i = d
    · subst c; rw [pk_us]; exact ⟨⟨by omega, by omega⟩, (h2 i hi).2⟩
    · rw [hne i c]; exact h2 i hi
  · rw [i9]
    unfold fmM
    rw [show (v.toInt + 1).toNat = d + 1 by omega, fmS_s, fmS_s, fmS_c (f := upd f (6 * d + 5) x11) (g := f) d (fun i hi => hne i (by omega)), pk_us, ← e6, ← hd, e11']
    have : (5 - (x6.toInt + 1).toNat) + 1 = 5 - x6.toInt.toNat := by omega
    rw [← this, Nat.add_mul, Nat.one_mul]
    omega
/-- a level is left -/
theorem fm_pop {N : Int32} {f : Nat → Int32} {v x4 x5 x6 x19 : Int32} {nf : Nat} (c2 : ¬ v < 0) (h1 : -1 ≤ v.toInt ∧ v.toInt ≤ 8) (h2 : fmI N f v) (hm : fmM f v < nf + 1) (e4 : x4 = 6 * v) (e5 : x5 = x4 + 5) (e6 : x6 = f x5.toNatClampNeg) (c7 : x6 = 4) (e19 : x19 = v + (-1)) : (-1 ≤ x19.toInt ∧ x19.toInt ≤ 8) ∧ fmI N f x19 ∧ fmM f x19 < nf := by
  have h0 := i_nlt c2
  rw [show (0 : Int32).toInt = 0 from rfl] at h0
  obtain ⟨d, hd⟩ : ∃ d, d = v.toInt.toNat := ⟨_, rfl⟩
  have hv : v = nI d := by rw [hd]; exact x_nIt h0
  have i5 := fm_ix hv (by omega) e4 e5
  have e19' : x19.toInt = v.toInt - 1 := i_add e19 (by rw [show (-1 : Int32).toInt = -1 from rfl]; omega) (by rw [show (-1 : Int32).toInt = -1 from rfl]; omega)
  refine ⟨⟨by omega, by omega⟩, fun i hi => h2 i (by omega), ?_⟩
  unfold fmM at hm ⊢
  rw [show (v.toInt + 1).toNat = d + 1 by omega, fmS_s, ← i5, ← e6, c7, show (4 : Int32).toInt = 4 from rfl] at hm
  rw [show (x19.toInt + 1).toNat = d by omega]
  have : 0 < 6 ^ (8 - d) := Nat.pow_pos (by omega)
  have h9 : (5 - (4 : Int).toNat) * 6 ^ (8 - d) = 6 ^ (8 - d) := by rw [show 5 - (4 : Int).toNat = 1 from rfl, Nat.one_mul]
  omega
theorem plU_lo {o f : Nat → Int32} {d j : Nat} (h : j < 6 * d) : plU o f d j = f j := by
  unfold plU
  rw [pk_un (by omega), pk_un (by omega), pk_un (by omega), pk_un (by omega), pk_un (by omega), pk_un (by omega)]
theorem plU_0 {o f : Nat → Int32} {d : Nat} : plU o f d (6 * d) = o 31 := by
  unfold plU
  rw [pk_un (by omega), pk_un (by omega), pk_un (by omega), pk_un (by omega), pk_un (by omega), pk_us]
theorem plU_1 {o f : Nat → Int32} {d : Nat} : plU o f d (6 * d + 1) = o 32 := by
  unfold plU
  rw [pk_un (by omega), pk_un (by omega), pk_un (by omega), pk_un (by omega), pk_us]
theorem plU_2 {o f : Nat → Int32} {d : Nat} : plU o f d (6 * d + 2) = o 33 := by
  unfold plU
  rw [pk_un (by omega), pk_un (by omega), pk_un (by omega), pk_us]
theorem plU_3 {o f : Nat → Int32} {d : Nat} : plU o f d (6 * d + 3) = o 34 := by
  unfold plU
  rw [pk_un (by omega), pk_un (by omega), pk_us]
theorem plU_4 {o f : Nat → Int32} {d : Nat} : plU o f d (6 * d + 4) = o 35 := by
  unfold plU
  rw [pk_un (by omega), pk_us]
theorem plU_5 {o f : Nat → Int32} {d : Nat} : plU o f d (6 * d + 5) = 0 := by
  unfold plU
  rw [pk_us]
theorem fm_init {N : Int32} {S : Nat → Int32} {A : Nat → Nat → Int32} {z : Int32 × Int32 × Int32 × (Nat → Int32) × (Nat → Int32)} (hN : 0 ≤ N.toInt ∧ N.toInt ≤ 8) (e : z = F_X7_piles S A 0) : fmI N z.2.2.2.1 0 := by
  obtain ⟨v, f', e1, -⟩ := pl_eq S A (d := 0) (by omega)
  have e2 : z.2.2.2.1 = plU S (A 38) 0 := by rw [e]; exact congrArg (fun z : Int32 × Int32 × Int32 × (Nat → Int32) × (Nat → Int32) => z.2.2.2.1) e1
  intro i hi
  rw [show (0 : Int32).toInt = 0 from rfl] at hi
  have hi0 : i = 0 := by omega
  subst hi0
  rw [e2]
  refine ⟨?_, ?_⟩
  · rw [show plU S (A 38) 0 (6 * 0 + 5) = 0 from plU_5 (d := 0)]; decide
  · have := unr_le (plU S (A 38) 0 (6 * 0 + 3)) N.toInt.toNat (by omega)
    omega
section FMP
variable {N : Int32} {f : Nat → Int32} {v x4 x5 x6 x8 x9 x10 x11 r13 x17 : Int32} {nf : Nat} {o12 o15 : Int32 × Int32 × Int32 × Int32 × Int32} {o18 : Int32 × Int32 × Int32 × (Nat → Int32) × (Nat → Int32)} {S2 S3 S4 S5 : Nat → Int32} {A2 A3 A4 A5 : Nat → Nat → Int32}
theorem fm_core (hN : 0 ≤ N.toInt ∧ N.toInt ≤ 8) (c2 : ¬ v < 0) (h1 : -1 ≤ v.toInt ∧ v.toInt ≤ 8) (h2 : fmI N f v) (e4 : x4 = 6 * v) (e8 : x8 = 6 * v) (e9 : x9 = x8 + 5)
    (e12 : o12 = F_X7_unpiles S2 A2 v) (hA2 : A2 38 = upd f x9.toNatClampNeg x11) (e13 : r13 = F_X7_firstIn S3 A3 x6) (hS3 : S3 34 = o12.2.2.2.1) (hS3n : S3 13 = N) (c14 : 0 ≤ r13) (e15 : o15 = F_X7_reads S4 A4 r13) (hS4 : S4 34 = o12.2.2.2.1) (c16 : ¬ o15.2.2.2.2 = 1) (e17 : x17 = v + 1) : ∃ d : Nat, v = nI d ∧ d = v.toInt.toNat ∧ x17 = nI (d + 1) ∧ x17.toInt = d + 1 ∧ d + 1 ≤ 8 ∧ unr o15.2.2.2.1 N.toInt.toNat + (d + 1) ≤ 8 := by
  have h0 := i_nlt c2
  rw [show (0 : Int32).toInt = 0 from rfl] at h0
  obtain ⟨d, hd⟩ : ∃ d, d = v.toInt.toNat := ⟨_, rfl⟩
  have hv : v = nI d := by rw [hd]; exact x_nIt h0
  have i9 := fm_ix hv (by omega) e8 e9
  have g3 := (h2 d (by omega)).2
  have e12' : o12.2.2.2.1 = f (6 * d + 3) := by
    rw [e12, hv, upl_eq S2 A2 (by omega)]
    show A2 38 (6 * d + 3) = _
    rw [hA2, i9, pk_un (by omega)]
  obtain ⟨j, hj, hr, hb, -⟩ := fi_in (N := N.toInt.toNat) (by rw [hS3n]; omega) (by omega) e13 c14
  rw [hS3, e12'] at hb
  have e15' : o15.2.2.2.1 = (f (6 * d + 3) ||| ((1 : Int32) <<< (nI j &&& 31))) := by
    rw [e15] at c16 ⊢
    rw [rd_or S4 A4 r13 c16, hS4, e12', hr]
  have hu := unr_set hb N.toInt.toNat (by omega) hj
  rw [← e15'] at hu
  have e17' : x17 = nI (d + 1) := by rw [e17, hv, nI_1]
  refine ⟨d, hv, hd, e17', ?_, by omega, by omega⟩
  rw [e17', nI_toInt (by omega)]
  omega
theorem fm_deep (hN : 0 ≤ N.toInt ∧ N.toInt ≤ 8) (c2 : ¬ v < 0) (h1 : -1 ≤ v.toInt ∧ v.toInt ≤ 8) (h2 : fmI N f v) (e4 : x4 = 6 * v) (e8 : x8 = 6 * v) (e9 : x9 = x8 + 5)
    (e12 : o12 = F_X7_unpiles S2 A2 v) (hA2 : A2 38 = upd f x9.toNatClampNeg x11) (e13 : r13 = F_X7_firstIn S3 A3 x6) (hS3 : S3 34 = o12.2.2.2.1) (hS3n : S3 13 = N) (c14 : 0 ≤ r13) (e15 : o15 = F_X7_reads S4 A4 r13) (hS4 : S4 34 = o12.2.2.2.1) (c16 : ¬ o15.2.2.2.2 = 1) (e17 : x17 = v + 1) : 0 ≤ x17.toInt ∧ x17.toInt ≤ 8 := by
  obtain ⟨d, -, -, -, h, h8, -⟩ := fm_core hN c2 h1 h2 e4 e8 e9 e12 hA2 e13 hS3 hS3n c14 e15 hS4 c16 e17
  omega
theorem fm_nextM (c2 : ¬ v < 0) (h1 : -1 ≤ v.toInt ∧ v.toInt ≤ 8) (h2 : fmI N f v) (hm : fmM f v < nf + 1) (e4 : x4 = 6 * v) (e5 : x5 = x4 + 5) (e6 : x6 = f x5.toNatClampNeg) (c7 : ¬ x6 = 4) (e8 : x8 = 6 * v) (e9 : x9 = x8 + 5) (e10 : x10 = f x9.toNatClampNeg) (e11 : x11 = x10 + 1) : fmM (upd f x9.toNatClampNeg x11) v < nf := by
  have h := (fm_next c2 h1 h2 hm e4 e5 e6 c7 e8 e9 e10 e11).2.1
  have : 0 < 6 ^ (8 - v.toInt.toNat) := Nat.pow_pos (by omega)
  omega
/-- a level more -/
theorem fm_push (hN : 0 ≤ N.toInt ∧ N.toInt ≤ 8) (c2 : ¬ v < 0) (h1 : -1 ≤ v.toInt ∧ v.toInt ≤ 8) (h2 : fmI N f v) (hm : fmM f v < nf + 1) (e4 : x4 = 6 * v) (e5 : x5 = x4 + 5) (e6 : x6 = f x5.toNatClampNeg) (c7 : ¬ x6 = 4) (e8 : x8 = 6 * v) (e9 : x9 = x8 + 5) (e10 : x10 = f x9.toNatClampNeg) (e11 : x11 = x10 + 1)
    (e12 : o12 = F_X7_unpiles S2 A2 v) (hA2 : A2 38 = upd f x9.toNatClampNeg x11) (e13 : r13 = F_X7_firstIn S3 A3 x6) (hS3 : S3 34 = o12.2.2.2.1) (hS3n : S3 13 = N) (c14 : 0 ≤ r13) (e15 : o15 = F_X7_reads S4 A4 r13) (hS4 : S4 34 = o12.2.2.2.1) (c16 : ¬ o15.2.2.2.2 = 1) (e17 : x17 = v + 1) (e18 : o18 = F_X7_piles S5 A5 x17) (hS5 : S5 34 = o15.2.2.2.1) (hA5 : A5 38 = upd f x9.toNatClampNeg x11) : (-1 ≤ x17.toInt ∧ x17.toInt ≤ 8) ∧ fmI N o18.2.2.2.1 x17 ∧ fmM o18.2.2.2.1 x17 < nf := by
  obtain ⟨d, hv, hd, e17', h17, h8, hu⟩ := fm_core hN c2 h1 h2 e4 e8 e9 e12 hA2 e13 hS3 hS3n c14 e15 hS4 c16 e17
  have hn := fm_next c2 h1 h2 hm e4 e5 e6 c7 e8 e9 e10 e11
  have h0 := i_nlt c2
  rw [show (0 : Int32).toInt = 0 from rfl] at h0
  obtain ⟨w, f', ep, -⟩ := pl_eq S5 A5 (d := d + 1) (by omega)
  have hp : o18.2.2.2.1 = plU S5 (upd f x9.toNatClampNeg x11) (d + 1) := by
    rw [e18, e17', ← hA5]
    exact congrArg (fun z : Int32 × Int32 × Int32 × (Nat → Int32) × (Nat → Int32) => z.2.2.2.1) ep
  generalize o18.2.2.2.1 = g at *
  subst hp
  refine ⟨⟨by omega, by omega⟩, fun i hi => ?_, ?_⟩
  · by_cases c : i = d + 1
    · subst c
      rw [plU_5, plU_3, hS5]
      exact ⟨by decide, hu⟩
    · rw [plU_lo (by omega), plU_lo (by omega)]
      exact hn.1 i (by omega)
  · have h3 := hn.2.1
    unfold fmM at h3 hm ⊢
    rw [show (v.toInt + 1).toNat = d + 1 by omega] at h3 hm
    rw [show (x17.toInt + 1).toNat = (d + 1) + 1 by omega, fmS_s, plU_5, show (0 : Int32).toInt = 0 from rfl, fmS_c (g := upd f x9.toNatClampNeg x11) (d + 1) (fun i hi => plU_lo (by omega))]
    rw [← hd, show 8 - d = (8 - (d + 1)) + 1 by omega, Nat.pow_succ] at h3
    have : 0 < 6 ^ (8 - (d + 1)) := Nat.pow_pos (by omega)
    rw [show 5 - (0 : Int).toNat = 5 from rfl]
    omega
end FMP
