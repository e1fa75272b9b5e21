def ck (f : Nat → Int32) : va_E := .inr (2, [.int (f 0), .int (f 1), .int (f 2), .int (f 3), .int (f 4), .int (f 5), .int (f 6), .int (f 7)])
def lk (w : Nat → Nat) (L : Nat → Nat → Int32) : va_W := [(w 0, ck (L 0)), (w 1, ck (L 1)), (w 2, ck (L 2)), (w 3, ck (L 3))]
def lr (k : Nat) (w : Nat → Nat) (L : Nat → Nat → Int32) : va_W := match k with
  | 0 => [(w 1, ck (L 1)), (w 2, ck (L 2)), (w 3, ck (L 3))]
  | 1 => [(w 0, ck (L 0)), (w 2, ck (L 2)), (w 3, ck (L 3))]
  | 2 => [(w 0, ck (L 0)), (w 1, ck (L 1)), (w 3, ck (L 3))]
  | _ => [(w 0, ck (L 0)), (w 1, ck (L 1)), (w 2, ck (L 2))]
theorem x_P_mem {D : va_G} {cl : List vw_C} {ws ws' : va_W} {H : Heap} (h : va_P D cl ws H) (hm : ∀ q, q ∈ ws' → q ∈ ws) : va_P D cl ws' H := fun k q hk => by
  obtain ⟨j, hj⟩ := List.getElem?_of_mem (hm q (List.mem_of_getElem? hk))
  exact h j q hj
theorem x_D_pw {A : Nat → Prop} {ws : va_W} : va_D A ws ↔ (ws.Pairwise (fun p q => p.1 ≠ q.1)) ∧ ∀ q ∈ ws, A q.1 := by
  constructor
  · intro h
    refine ⟨List.pairwise_iff_getElem.mpr (fun i j hi hj hij e => ?_), fun q hq => ?_⟩
    · have := h.1 i j ws[i] ws[j] (List.getElem?_eq_getElem hi) (List.getElem?_eq_getElem hj) e
      omega
    · obtain ⟨k, hk⟩ := List.getElem?_of_mem hq
      exact h.2 k q hk
  · intro h
    refine ⟨fun i j p q hi hj e => ?_, fun k q hk => h.2 q (List.mem_of_getElem? hk)⟩
    obtain ⟨hi1, hi2⟩ := List.getElem?_eq_some_iff.mp hi
    obtain ⟨hj1, hj2⟩ := List.getElem?_eq_some_iff.mp hj
    have hw := List.pairwise_iff_getElem.mp h.1
    rcases Nat.lt_trichotomy i j with g | g | g
    · exact absurd (by rw [hi2, hj2]; exact e) (hw i j hi1 hj1 g)
    · exact g
    · exact absurd (by rw [hi2, hj2]; exact e.symm) (hw j i hj1 hi1 g)
theorem x_D_perm {A : Nat → Prop} {ws ws' : va_W} (hp : ws'.Perm ws) (h : va_D A ws) : va_D A ws' := by
  rw [x_D_pw] at h ⊢
  exact ⟨(hp.pairwise_iff (fun hxy => Ne.symm hxy)).mpr h.1, fun q hq => h.2 q (hp.mem_iff.mp hq)⟩
theorem x_lk_perm {w : Nat → Nat} {L : Nat → Nat → Int32} {k : Nat} (hk : k < 4) : ((w k, ck (L k)) :: lr k w L).Perm (lk w L) := by
  match k, hk with
  | 0, _ => exact List.Perm.refl _
  | 1, _ => exact (List.perm_middle (l₁ := [(w 0, ck (L 0))]) (l₂ := [(w 2, ck (L 2)), (w 3, ck (L 3))])).symm
  | 2, _ => exact (List.perm_middle (l₁ := [(w 0, ck (L 0)), (w 1, ck (L 1))]) (l₂ := [(w 3, ck (L 3))])).symm
  | 3, _ => exact (List.perm_middle (l₁ := [(w 0, ck (L 0)), (w 1, ck (L 1)), (w 2, ck (L 2))]) (l₂ := [])).symm
theorem x_lk_perm' {w : Nat → Nat} {L : Nat → Nat → Int32} {f : Nat → Int32} {k : Nat} (hk : k < 4) : ((w k, ck f) :: lr k w L).Perm (lk w (va_up L k f)) := by
  have h := x_lk_perm (w := w) (L := va_up L k f) hk
  have e1 : va_up L k f k = f := by simp [va_up]
  have e2 : lr k w (va_up L k f) = lr k w L := by
    match k, hk with
    | 0, _ => simp [lr, va_up]
    | 1, _ => simp [lr, va_up]
    | 2, _ => simp [lr, va_up]
    | 3, _ => simp [lr, va_up]
  rw [e1, e2] at h
  exact h
theorem x_pick {A : Nat → Prop} {D : va_G} {cl : List vw_C} {base : va_W} {w : Nat → Nat} {L : Nat → Nat → Int32} {k : Nat} {H : Heap} (hk : k < 4) (hP : va_P D cl (base ++ lk w L) H) (hD : va_D A (base ++ lk w L)) : va_P D cl (base ++ (w k, ck (L k)) :: lr k w L) H ∧ va_D A (base ++ (w k, ck (L k)) :: lr k w L) :=
  have p := List.Perm.append_left base (x_lk_perm (w := w) (L := L) hk)
  ⟨x_P_mem hP (fun _ h => p.mem_iff.mp h), x_D_perm p hD⟩
theorem x_unpick {A : Nat → Prop} {D : va_G} {cl : List vw_C} {base : va_W} {w : Nat → Nat} {L : Nat → Nat → Int32} {f : Nat → Int32} {k : Nat} {H : Heap} (hk : k < 4) (hP : va_P D cl (base ++ (w k, ck f) :: lr k w L) H) (hD : va_D A (base ++ (w k, ck f) :: lr k w L)) : va_P D cl (base ++ lk w (va_up L k f)) H ∧ va_D A (base ++ lk w (va_up L k f)) :=
  have p := List.Perm.append_left base (x_lk_perm' (w := w) (L := L) (f := f) hk)
  ⟨x_P_mem hP (fun _ h => p.mem_iff.mpr h), x_D_perm p.symm hD⟩
theorem x_unpick0 {A : Nat → Prop} {D : va_G} {cl : List vw_C} {base : va_W} {w : Nat → Nat} {L : Nat → Nat → Int32} {k : Nat} {H : Heap} (hk : k < 4) (hP : va_P D cl (base ++ (w k, ck (L k)) :: lr k w L) H) (hD : va_D A (base ++ (w k, ck (L k)) :: lr k w L)) : va_P D cl (base ++ lk w L) H ∧ va_D A (base ++ lk w L) :=
  have p := List.Perm.append_left base (x_lk_perm (w := w) (L := L) hk)
  ⟨x_P_mem hP (fun _ h => p.mem_iff.mpr h), x_D_perm p.symm hD⟩
def zb (x : Int32) : Prop := narrow .boolean (.int x) = .int x ∧ fits .boolean (.int x) = true
theorem zb_of {x y : Int32} (e : x = y) (h : zb y) : zb x := e ▸ h
theorem zb_0 : zb 0 := ⟨rfl, rfl⟩
theorem zb_1 : zb 1 := ⟨rfl, rfl⟩
def wkb (n p : Int32) : Bool := !decide (p < 0) && !decide (n ≤ p) && !decide (4 ≤ p)
theorem wkb_t {n p : Int32} (h : wkb n p = true) : ¬ p < 0 ∧ ¬ n ≤ p ∧ ¬ 4 ≤ p := by
  simp only [wkb, Bool.and_eq_true, Bool.not_eq_true', decide_eq_false_iff_not] at h
  exact ⟨h.1.1, h.1.2, h.2⟩
theorem wkb_f {n p : Int32} (h : ¬ wkb n p = true) : p < 0 ∨ n ≤ p ∨ 4 ≤ p := by
  rcases Decidable.em (p < 0) with a | a
  · exact Or.inl a
  · rcases Decidable.em (n ≤ p) with b | b
    · exact Or.inr (Or.inl b)
    · rcases Decidable.em ((4 : Int32) ≤ p) with c | c
      · exact Or.inr (Or.inr c)
      · exact absurd (by simp [wkb, a, b, c]) h
theorem who_k {n p : Int32} (h : wkb n p = true) : p.toNatClampNeg < 4 := by
  obtain ⟨a, b, c⟩ := wkb_t h
  obtain ⟨j, hj, rfl⟩ := nI_of a
  rw [nI_clamp hj]
  rcases Nat.lt_or_ge j 4 with q | q
  · exact q
  · exact absurd (nI_le q hj) c
