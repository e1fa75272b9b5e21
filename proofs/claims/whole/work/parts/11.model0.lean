noncomputable def F_X7_isIn (p0 : Int32) (p1 : Int32) (p2 : Int32) : Int32 :=
  if p0 < p1 then
  (0)
  else
  (if p2 < p0 then
  (0)
  else
  (1))
theorem nz_X7_isIn (p0 : Int32) (p1 : Int32) (p2 : Int32) : narrow .boolean (.int (F_X7_isIn p0 p1 p2)) = .int (F_X7_isIn p0 p1 p2) := by
  unfold F_X7_isIn
  try dsimp only
  (repeat' split) <;> rfl
set_option maxRecDepth 100000 in
theorem eX7_isIn_1 (p0 : Int32) (p1 : Int32) (p2 : Int32) (c_1 : p0 < p1) : F_X7_isIn p0 p1 p2 = 0 := by exact (if_pos c_1).trans (rfl)
set_option maxRecDepth 100000 in
theorem eX7_isIn_2 (p0 : Int32) (p1 : Int32) (p2 : Int32) (c_1 : ¬ (p0 < p1)) (c_2 : p2 < p0) : F_X7_isIn p0 p1 p2 = 0 := by exact (if_neg c_1).trans ((if_pos c_2).trans (rfl))
set_option maxRecDepth 100000 in
theorem eX7_isIn_3 (p0 : Int32) (p1 : Int32) (p2 : Int32) (c_1 : ¬ (p0 < p1)) (c_2 : ¬ (p2 < p0)) : F_X7_isIn p0 p1 p2 = 1 := by exact (if_neg c_1).trans ((if_neg c_2).trans (rfl))
set_option maxHeartbeats 4000000 in
set_option maxRecDepth 100000 in
theorem c_X7_isIn (l : Launch) (D : va_G) (cI cL : ClassId)   (p0 : Int32) (p1 : Int32) (p2 : Int32)  : Xi l yX7_isIn (wm yX7_isIn cX7_isIn 3 (some .boolean)) (xR (0) (0)) D (tyA cI cL) [.int p0, .int p1, .int p2] [] [] (F_X7_isIn p0 p1 p2) := by
  intro sz
  refine x_in (cc := cX7_isIn) (maxL := 3) (ret := (some .boolean)) (by decide) rfl (Nat.le_of_ble_eq_true rfl) (fun p e s m below meth c A ls hfix hr hlocks hN hK hP hAe hD hA hS hl => ?_)
  obtain ⟨hx, hb, hml, hown, hts⟩ := hfix
  rw [← hAe]
  clear hAe
  have hown : s.vm.findClass RX7 = some m.cls := hown
  have htL : ∀ w ∈ wsL_law, w.before ([.int p0, .int p1, .int p2] : List Value).toArray s = true := fun w h => hts w (List.mem_cons_of_mem _ h)
  have hl : lv_has ls 3 [(0, .int p0), (1, .int p1), (2, .int p2)] := hl
  refine lv_iload_n hx hb dX7_isIn_0 rfl (lv_at hl 0 rfl) ?_
  refine lv_iload_n hx hb dX7_isIn_1 rfl (lv_at hl 1 rfl) ?_
  refine lv_icmp_lt (tgt := 14) hx hb dX7_isIn_2 (by decide) (fun c_1 => ?_) (fun c_1 => ?_)
  · refine lv_iconst (v := 0) hx hb dX7_isIn_14 (by decide) ?_
    have hF1 : F_X7_isIn p0 p1 p2 = 0 := (eX7_isIn_1 p0 p1 p2 c_1)
    exact xz_ret hx hb hr hlocks hP hS rfl (congrArg (fun o : Int32 => o) hF1).symm dX7_isIn_15 rfl
  · refine lv_iload_n hx hb dX7_isIn_5 rfl (lv_at hl 0 rfl) ?_
    refine lv_iload_n hx hb dX7_isIn_6 rfl (lv_at hl 2 rfl) ?_
    refine lv_icmp_gt (tgt := 14) hx hb dX7_isIn_7 (by decide) (fun c_2 => ?_) (fun c_2 => ?_)
    · refine lv_iconst (v := 0) hx hb dX7_isIn_14 (by decide) ?_
      have hF1 : F_X7_isIn p0 p1 p2 = 0 := (eX7_isIn_2 p0 p1 p2 c_1 c_2)
      exact xz_ret hx hb hr hlocks hP hS rfl (congrArg (fun o : Int32 => o) hF1).symm dX7_isIn_15 rfl
    · refine lv_iconst (v := 1) hx hb dX7_isIn_10 (by decide) ?_
      refine lv_goto (tgt := 15) hx hb dX7_isIn_11 (by decide) ?_
      have hF1 : F_X7_isIn p0 p1 p2 = 1 := (eX7_isIn_3 p0 p1 p2 c_1 c_2)
      exact xz_ret hx hb hr hlocks hP hS rfl (congrArg (fun o : Int32 => o) hF1).symm dX7_isIn_15 rfl
theorem sem_X7_isIn_n {r p a b : Int32} (e : r = F_X7_isIn p a b) (h : ¬ r = 0) : a.toInt ≤ p.toInt ∧ p.toInt ≤ b.toInt := by
  subst e
  unfold F_X7_isIn at h
  split at h
  · exact absurd rfl h
  · split at h
    · exact absurd rfl h
    · rename_i h1 h2
      exact ⟨i_nlt h1, i_nlt h2⟩

noncomputable def F_X7_bound (p0 : Int32) (p1 : Int32) (p2 : Int32) : Int32 :=
  if p1 ≤ p0 then
  (if p0 ≤ p2 then
  (0)
  else
  ((-6)))
  else
  ((-4))
set_option maxRecDepth 100000 in
theorem eX7_bound_1 (p0 : Int32) (p1 : Int32) (p2 : Int32) (c_1 : p1 ≤ p0) (c_2 : p0 ≤ p2) : F_X7_bound p0 p1 p2 = 0 := by exact (if_pos c_1).trans ((if_pos c_2).trans (rfl))
set_option maxRecDepth 100000 in
theorem eX7_bound_2 (p0 : Int32) (p1 : Int32) (p2 : Int32) (c_1 : p1 ≤ p0) (c_2 : ¬ (p0 ≤ p2)) : F_X7_bound p0 p1 p2 = (-6) := by exact (if_pos c_1).trans ((if_neg c_2).trans (rfl))
set_option maxRecDepth 100000 in
theorem eX7_bound_3 (p0 : Int32) (p1 : Int32) (p2 : Int32) (c_1 : ¬ (p1 ≤ p0)) : F_X7_bound p0 p1 p2 = (-4) := by exact (if_neg c_1).trans (rfl)
set_option maxHeartbeats 4000000 in
set_option maxRecDepth 100000 in
theorem c_X7_bound (l : Launch) (D : va_G) (cI cL : ClassId)   (p0 : Int32) (p1 : Int32) (p2 : Int32)  : Xi l yX7_bound (wm yX7_bound cX7_bound 3 (some .int)) (xR (0) (0)) D (tyA cI cL) [.int p0, .int p1, .int p2] [] [] (F_X7_bound p0 p1 p2) := by
  intro sz
  refine x_in (cc := cX7_bound) (maxL := 3) (ret := (some .int)) (by decide) rfl (Nat.le_of_ble_eq_true rfl) (fun p e s m below meth c A ls hfix hr hlocks hN hK hP hAe hD hA hS hl => ?_)
  obtain ⟨hx, hb, hml, hown, hts⟩ := hfix
  rw [← hAe]
  clear hAe
  have hown : s.vm.findClass RX7 = some m.cls := hown
  have htL : ∀ w ∈ wsL_law, w.before ([.int p0, .int p1, .int p2] : List Value).toArray s = true := fun w h => hts w (List.mem_cons_of_mem _ h)
  have hl : lv_has ls 3 [(0, .int p0), (1, .int p1), (2, .int p2)] := hl
  refine lv_iload_n hx hb dX7_bound_0 rfl (lv_at hl 0 rfl) ?_
  refine lv_iload_n hx hb dX7_bound_1 rfl (lv_at hl 1 rfl) ?_
  refine lv_icmp_ge (tgt := 10) hx hb dX7_bound_2 (by decide) (fun c_1 => ?_) (fun c_1 => ?_)
  · refine lv_iload_n hx hb dX7_bound_10 rfl (lv_at hl 0 rfl) ?_
    refine lv_iload_n hx hb dX7_bound_11 rfl (lv_at hl 2 rfl) ?_
    refine lv_icmp_le (tgt := 20) hx hb dX7_bound_12 (by decide) (fun c_2 => ?_) (fun c_2 => ?_)
    · refine lv_iconst (v := 0) hx hb dX7_bound_20 (by decide) ?_
      have hF1 : F_X7_bound p0 p1 p2 = 0 := (eX7_bound_1 p0 p1 p2 c_1 c_2)
      exact xi_ret hx hb hr hlocks hP hS rfl (congrArg (fun o : Int32 => o) hF1).symm dX7_bound_21
    · refine lv_bipush (v := (-6)) hx hb dX7_bound_15 (by decide) ?_
      refine lv_goto (tgt := 21) hx hb dX7_bound_17 (by decide) ?_
      have hF1 : F_X7_bound p0 p1 p2 = (-6) := (eX7_bound_2 p0 p1 p2 c_1 c_2)
      exact xi_ret hx hb hr hlocks hP hS rfl (congrArg (fun o : Int32 => o) hF1).symm dX7_bound_21
  · refine lv_bipush (v := (-4)) hx hb dX7_bound_5 (by decide) ?_
    refine lv_goto (tgt := 21) hx hb dX7_bound_7 (by decide) ?_
    have hF1 : F_X7_bound p0 p1 p2 = (-4) := (eX7_bound_3 p0 p1 p2 c_1)
    exact xi_ret hx hb hr hlocks hP hS rfl (congrArg (fun o : Int32 => o) hF1).symm dX7_bound_21
theorem sem_X7_bound_n {r p a b : Int32} (e : r = F_X7_bound p a b) (h : ¬ r = 0) : r.toInt = -4 ∨ r.toInt = -6 := by
  subst e
  unfold F_X7_bound at h ⊢
  split at h
  · split at h
    · exact absurd rfl h
    · rename_i h1 h2
      rw [if_pos h1, if_neg h2]
      exact Or.inr rfl
  · rename_i h1
    rw [if_neg h1]
    exact Or.inl rfl
theorem sem_X7_bound_z {r p a b : Int32} (e : r = F_X7_bound p a b) (h : r = 0) : a.toInt ≤ p.toInt ∧ p.toInt ≤ b.toInt := by
  subst e
  unfold F_X7_bound at h
  split at h
  · split at h
    · rename_i h1 h2
      exact ⟨i_le h1, i_le h2⟩
    · exact absurd h (by decide)
  · exact absurd h (by decide)

noncomputable def F_X7_no (oO : Nat → Int32) (aO : Nat → Nat → Int32) (p0 : Int32) : Int32 × (Nat → Int32) :=
  let x_1 : Int32 := (-p0)
  let x_2 : Int32 := ((aO 0) x_1.toNatClampNeg)
  let x_3 : Int32 := (x_2 + 1)
  (p0, (upd (aO 0) x_1.toNatClampNeg x_3))
set_option maxRecDepth 100000 in
theorem eX7_no_1 (oO : Nat → Int32) (aO : Nat → Nat → Int32) (p0 : Int32) (x_1 : Int32) (x_2 : Int32) (x_3 : Int32) (ex_1 : x_1 = (-p0)) (ex_2 : x_2 = ((aO 0) x_1.toNatClampNeg)) (ex_3 : x_3 = (x_2 + 1)) : F_X7_no oO aO p0 = (p0, (upd (aO 0) x_1.toNatClampNeg x_3)) := by subst ex_1 ex_2 ex_3; exact rfl
set_option maxHeartbeats 4000000 in
set_option maxRecDepth 100000 in
theorem c_X7_no (l : Launch) (D : va_G) (cI cL : ClassId)   (adO : Nat) (rO : Nat → Nat) (oO : Nat → Int32) (aO : Nat → Nat → Int32) (p0 : Int32) (hw : -7 < p0.toInt ∧ p0.toInt ≤ 0) : Xi l yX7_no (wm yX7_no cX7_no 2 (some .int)) (xR (0) (0)) D (tyA cI cL) [.ref adO, .int p0] [(adO, .inr (7, [.ref (rO 0), .ref (rO 1), .ref (rO 2), .ref (rO 3), .ref (rO 4), .ref (rO 5), .ref (rO 6), .ref (rO 7), .ref (rO 8), .ref (rO 9), .ref (rO 10), .ref (rO 11), .ref (rO 12), .int (oO 13), .int (oO 14), .int (oO 15), .int (oO 16), .int (oO 17), .int (oO 18), .ref (rO 19), .ref (rO 20), .ref (rO 21), .ref (rO 22), .int (oO 23), .int (oO 24), .int (oO 25), .ref (rO 26), .int (oO 27), .int (oO 28), .int (oO 29), .int (oO 30), .int (oO 31), .int (oO 32), .int (oO 33), .int (oO 34), .int (oO 35), .int (oO 36), .int (oO 37), .ref (rO 38), .ref (rO 39), .ref (rO 40), .int (oO 41), .int (oO 42), .int (oO 43), .ref (rO 44), .int (oO 45)])), ((rO 0), .inl (cI, 7, .inl (aO 0))), ((rO 1), .inl (cI, 8, .inl (aO 1))), ((rO 2), .inl (cI, 8, .inl (aO 2))), ((rO 3), .inl (cI, 8, .inl (aO 3))), ((rO 4), .inl (cI, 8, .inl (aO 4))), ((rO 5), .inl (cI, 4, .inl (aO 5))), ((rO 6), .inl (cI, 4, .inl (aO 6))), ((rO 7), .inl (cI, 4, .inl (aO 7))), ((rO 8), .inl (cI, 4, .inl (aO 8))), ((rO 9), .inl (cI, 4, .inl (aO 9))), ((rO 10), .inl (cI, 4, .inl (aO 10))), ((rO 11), .inl (cI, 4, .inl (aO 11))), ((rO 12), .inl (cI, 4, .inl (aO 12))), ((rO 19), .inl (cI, 96, .inl (aO 19))), ((rO 20), .inl (cI, 48, .inl (aO 20))), ((rO 21), .inl (cI, 48, .inl (aO 21))), ((rO 22), .inl (cI, 192, .inl (aO 22))), ((rO 26), .inl (cI, 160, .inl (aO 26))), ((rO 38), .inl (cI, 54, .inl (aO 38))), ((rO 39), .inl (cI, 9, .inl (aO 39))), ((rO 40), .inl (cI, 9, .inl (aO 40))), ((rO 44), .inl (cI, 12, .inl (aO 44)))] [(adO, .inr (7, [.ref (rO 0), .ref (rO 1), .ref (rO 2), .ref (rO 3), .ref (rO 4), .ref (rO 5), .ref (rO 6), .ref (rO 7), .ref (rO 8), .ref (rO 9), .ref (rO 10), .ref (rO 11), .ref (rO 12), .int (oO 13), .int (oO 14), .int (oO 15), .int (oO 16), .int (oO 17), .int (oO 18), .ref (rO 19), .ref (rO 20), .ref (rO 21), .ref (rO 22), .int (oO 23), .int (oO 24), .int (oO 25), .ref (rO 26), .int (oO 27), .int (oO 28), .int (oO 29), .int (oO 30), .int (oO 31), .int (oO 32), .int (oO 33), .int (oO 34), .int (oO 35), .int (oO 36), .int (oO 37), .ref (rO 38), .ref (rO 39), .ref (rO 40), .int (oO 41), .int (oO 42), .int (oO 43), .ref (rO 44), .int (oO 45)])), ((rO 0), .inl (cI, 7, .inl (F_X7_no oO aO p0).2)), ((rO 1), .inl (cI, 8, .inl (aO 1))), ((rO 2), .inl (cI, 8, .inl (aO 2))), ((rO 3), .inl (cI, 8, .inl (aO 3))), ((rO 4), .inl (cI, 8, .inl (aO 4))), ((rO 5), .inl (cI, 4, .inl (aO 5))), ((rO 6), .inl (cI, 4, .inl (aO 6))), ((rO 7), .inl (cI, 4, .inl (aO 7))), ((rO 8), .inl (cI, 4, .inl (aO 8))), ((rO 9), .inl (cI, 4, .inl (aO 9))), ((rO 10), .inl (cI, 4, .inl (aO 10))), ((rO 11), .inl (cI, 4, .inl (aO 11))), ((rO 12), .inl (cI, 4, .inl (aO 12))), ((rO 19), .inl (cI, 96, .inl (aO 19))), ((rO 20), .inl (cI, 48, .inl (aO 20))), ((rO 21), .inl (cI, 48, .inl (aO 21))), ((rO 22), .inl (cI, 192, .inl (aO 22))), ((rO 26), .inl (cI, 160, .inl (aO 26))), ((rO 38), .inl (cI, 54, .inl (aO 38))), ((rO 39), .inl (cI, 9, .inl (aO 39))), ((rO 40), .inl (cI, 9, .inl (aO 40))), ((rO 44), .inl (cI, 12, .inl (aO 44)))] (F_X7_no oO aO p0).1 := by
  intro sz
  refine x_in (cc := cX7_no) (maxL := 2) (ret := (some .int)) (by decide) rfl (Nat.le_of_ble_eq_true rfl) (fun p e s m below meth c A ls hfix hr hlocks hN hK hP hAe hD hA hS hl => ?_)
  obtain ⟨hx, hb, hml, hown, hts⟩ := hfix
  rw [← hAe]
  clear hAe
  have hown : s.vm.findClass RX7 = some m.cls := hown
  have htL : ∀ w ∈ wsL_law, w.before ([.ref adO, .int p0] : List Value).toArray s = true := fun w h => hts w (List.mem_cons_of_mem _ h)
  have hl : lv_has ls 2 [(0, .ref adO), (1, .int p0)] := hl
  refine lv_aload_n hx hb dX7_no_0 rfl (lv_at hl 0 rfl) ?_
  refine va_get (D := D) (ci := 7) (v := .ref (rO 0)) (C := RX7) (T := TX7) (N := 46) hx hb hts (fun _ h => w_in (inlX7 _ h)) hown hK hP 0 rfl rfl 0 (by decide) (htL _ wd_105) (fun _ h9 => h9) rfl dX7_no_1 ?_
  refine lv_iload_n hx hb dX7_no_4 rfl (lv_at hl 1 rfl) ?_
  refine lv_ineg hx hb dX7_no_5 ?_
  refine lv_topi (fun x_1 ex_1 => ?_)
  refine lv_dup2_11 hx hb dX7_no_6 rfl rfl ?_
  refine va_iald hx hb hK hP 1 0 rfl rfl (vp_in_iff.mpr (by have l0 : (0 : Int32).toInt = 0 := rfl; have l1 : (1 : Int32).toInt = 1 := rfl; (try have qex_1 := i_neg ex_1 (by omega)); omega)) dX7_no_7 ?_
  refine lv_topi (fun x_2 ex_2 => ?_)
  refine lv_iconst (v := 1) hx hb dX7_no_8 (by decide) ?_
  refine lv_iadd hx hb dX7_no_9 ?_
  refine lv_topi (fun x_3 ex_3 => ?_)
  refine va_iast hx hb hK hP hD hS 1 0 rfl rfl (vp_in_iff.mpr (by have l0 : (0 : Int32).toInt = 0 := rfl; have l1 : (1 : Int32).toInt = 1 := rfl; have qex_2 := congrArg Int32.toInt ex_2; (try have qex_1 := i_neg ex_1 (by omega)); (try have qex_3 := i_add ex_3 (by omega) (by omega)); omega)) dX7_no_10 (fun H locs hP hD hS => ?_)
  have hP : va_P D vwCl [(adO, .inr (7, [.ref (rO 0), .ref (rO 1), .ref (rO 2), .ref (rO 3), .ref (rO 4), .ref (rO 5), .ref (rO 6), .ref (rO 7), .ref (rO 8), .ref (rO 9), .ref (rO 10), .ref (rO 11), .ref (rO 12), .int (oO 13), .int (oO 14), .int (oO 15), .int (oO 16), .int (oO 17), .int (oO 18), .ref (rO 19), .ref (rO 20), .ref (rO 21), .ref (rO 22), .int (oO 23), .int (oO 24), .int (oO 25), .ref (rO 26), .int (oO 27), .int (oO 28), .int (oO 29), .int (oO 30), .int (oO 31), .int (oO 32), .int (oO 33), .int (oO 34), .int (oO 35), .int (oO 36), .int (oO 37), .ref (rO 38), .ref (rO 39), .ref (rO 40), .int (oO 41), .int (oO 42), .int (oO 43), .ref (rO 44), .int (oO 45)])), ((rO 0), .inl (cI, 7, .inl (upd (aO 0) x_1.toNatClampNeg x_3))), ((rO 1), .inl (cI, 8, .inl (aO 1))), ((rO 2), .inl (cI, 8, .inl (aO 2))), ((rO 3), .inl (cI, 8, .inl (aO 3))), ((rO 4), .inl (cI, 8, .inl (aO 4))), ((rO 5), .inl (cI, 4, .inl (aO 5))), ((rO 6), .inl (cI, 4, .inl (aO 6))), ((rO 7), .inl (cI, 4, .inl (aO 7))), ((rO 8), .inl (cI, 4, .inl (aO 8))), ((rO 9), .inl (cI, 4, .inl (aO 9))), ((rO 10), .inl (cI, 4, .inl (aO 10))), ((rO 11), .inl (cI, 4, .inl (aO 11))), ((rO 12), .inl (cI, 4, .inl (aO 12))), ((rO 19), .inl (cI, 96, .inl (aO 19))), ((rO 20), .inl (cI, 48, .inl (aO 20))), ((rO 21), .inl (cI, 48, .inl (aO 21))), ((rO 22), .inl (cI, 192, .inl (aO 22))), ((rO 26), .inl (cI, 160, .inl (aO 26))), ((rO 38), .inl (cI, 54, .inl (aO 38))), ((rO 39), .inl (cI, 9, .inl (aO 39))), ((rO 40), .inl (cI, 9, .inl (aO 40))), ((rO 44), .inl (cI, 12, .inl (aO 44)))] _ := hP
  have hD : va_D A [(adO, .inr (7, [.ref (rO 0), .ref (rO 1), .ref (rO 2), .ref (rO 3), .ref (rO 4), .ref (rO 5), .ref (rO 6), .ref (rO 7), .ref (rO 8), .ref (rO 9), .ref (rO 10), .ref (rO 11), .ref (rO 12), .int (oO 13), .int (oO 14), .int (oO 15), .int (oO 16), .int (oO 17), .int (oO 18), .ref (rO 19), .ref (rO 20), .ref (rO 21), .ref (rO 22), .int (oO 23), .int (oO 24), .int (oO 25), .ref (rO 26), .int (oO 27), .int (oO 28), .int (oO 29), .int (oO 30), .int (oO 31), .int (oO 32), .int (oO 33), .int (oO 34), .int (oO 35), .int (oO 36), .int (oO 37), .ref (rO 38), .ref (rO 39), .ref (rO 40), .int (oO 41), .int (oO 42), .int (oO 43), .ref (rO 44), .int (oO 45)])), ((rO 0), .inl (cI, 7, .inl (upd (aO 0) x_1.toNatClampNeg x_3))), ((rO 1), .inl (cI, 8, .inl (aO 1))), ((rO 2), .inl (cI, 8, .inl (aO 2))), ((rO 3), .inl (cI, 8, .inl (aO 3))), ((rO 4), .inl (cI, 8, .inl (aO 4))), ((rO 5), .inl (cI, 4, .inl (aO 5))), ((rO 6), .inl (cI, 4, .inl (aO 6))), ((rO 7), .inl (cI, 4, .inl (aO 7))), ((rO 8), .inl (cI, 4, .inl (aO 8))), ((rO 9), .inl (cI, 4, .inl (aO 9))), ((rO 10), .inl (cI, 4, .inl (aO 10))), ((rO 11), .inl (cI, 4, .inl (aO 11))), ((rO 12), .inl (cI, 4, .inl (aO 12))), ((rO 19), .inl (cI, 96, .inl (aO 19))), ((rO 20), .inl (cI, 48, .inl (aO 20))), ((rO 21), .inl (cI, 48, .inl (aO 21))), ((rO 22), .inl (cI, 192, .inl (aO 22))), ((rO 26), .inl (cI, 160, .inl (aO 26))), ((rO 38), .inl (cI, 54, .inl (aO 38))), ((rO 39), .inl (cI, 9, .inl (aO 39))), ((rO 40), .inl (cI, 9, .inl (aO 40))), ((rO 44), .inl (cI, 12, .inl (aO 44)))] := hD
  refine lv_iload_n hx hb dX7_no_11 rfl (lv_at hl 1 rfl) ?_
  have hF1 : F_X7_no oO aO p0 = (p0, (upd (aO 0) x_1.toNatClampNeg x_3)) := (eX7_no_1 oO aO p0 x_1 x_2 x_3 ex_1 ex_2 ex_3)
  exact xi_ret hx hb hr hlocks hP hS (congrArg (fun o : Int32 × (Nat → Int32) => ([(adO, .inr (7, [.ref (rO 0), .ref (rO 1), .ref (rO 2), .ref (rO 3), .ref (rO 4), .ref (rO 5), .ref (rO 6), .ref (rO 7), .ref (rO 8), .ref (rO 9), .ref (rO 10), .ref (rO 11), .ref (rO 12), .int (oO 13), .int (oO 14), .int (oO 15), .int (oO 16), .int (oO 17), .int (oO 18), .ref (rO 19), .ref (rO 20), .ref (rO 21), .ref (rO 22), .int (oO 23), .int (oO 24), .int (oO 25), .ref (rO 26), .int (oO 27), .int (oO 28), .int (oO 29), .int (oO 30), .int (oO 31), .int (oO 32), .int (oO 33), .int (oO 34), .int (oO 35), .int (oO 36), .int (oO 37), .ref (rO 38), .ref (rO 39), .ref (rO 40), .int (oO 41), .int (oO 42), .int (oO 43), .ref (rO 44), .int (oO 45)])), ((rO 0), .inl (cI, 7, .inl o.2)), ((rO 1), .inl (cI, 8, .inl (aO 1))), ((rO 2), .inl (cI, 8, .inl (aO 2))), ((rO 3), .inl (cI, 8, .inl (aO 3))), ((rO 4), .inl (cI, 8, .inl (aO 4))), ((rO 5), .inl (cI, 4, .inl (aO 5))), ((rO 6), .inl (cI, 4, .inl (aO 6))), ((rO 7), .inl (cI, 4, .inl (aO 7))), ((rO 8), .inl (cI, 4, .inl (aO 8))), ((rO 9), .inl (cI, 4, .inl (aO 9))), ((rO 10), .inl (cI, 4, .inl (aO 10))), ((rO 11), .inl (cI, 4, .inl (aO 11))), ((rO 12), .inl (cI, 4, .inl (aO 12))), ((rO 19), .inl (cI, 96, .inl (aO 19))), ((rO 20), .inl (cI, 48, .inl (aO 20))), ((rO 21), .inl (cI, 48, .inl (aO 21))), ((rO 22), .inl (cI, 192, .inl (aO 22))), ((rO 26), .inl (cI, 160, .inl (aO 26))), ((rO 38), .inl (cI, 54, .inl (aO 38))), ((rO 39), .inl (cI, 9, .inl (aO 39))), ((rO 40), .inl (cI, 9, .inl (aO 40))), ((rO 44), .inl (cI, 12, .inl (aO 44)))] : va_W)) hF1).symm (congrArg (fun o : Int32 × (Nat → Int32) => o.1) hF1).symm dX7_no_12

noncomputable def F_X7_lower (oO : Nat → Int32) (aO : Nat → Nat → Int32) (p0 : Int32) : Int32 × (Nat → Int32) :=
  let x_1 : Int32 := (-p0)
  let x_2 : Int32 := ((aO 0) x_1.toNatClampNeg)
  let x_3 : Int32 := (x_2 + 1)
  let x_4 : Int32 := (1000000000 - p0)
  (x_4, (upd (aO 0) x_1.toNatClampNeg x_3))
set_option maxRecDepth 100000 in
theorem eX7_lower_1 (oO : Nat → Int32) (aO : Nat → Nat → Int32) (p0 : Int32) (x_1 : Int32) (x_2 : Int32) (x_3 : Int32) (x_4 : Int32) (ex_1 : x_1 = (-p0)) (ex_2 : x_2 = ((aO 0) x_1.toNatClampNeg)) (ex_3 : x_3 = (x_2 + 1)) (ex_4 : x_4 = (1000000000 - p0)) : F_X7_lower oO aO p0 = (x_4, (upd (aO 0) x_1.toNatClampNeg x_3)) := by subst ex_1 ex_2 ex_3 ex_4; exact rfl
set_option maxHeartbeats 4000000 in
set_option maxRecDepth 100000 in
theorem c_X7_lower (l : Launch) (D : va_G) (cI cL : ClassId)   (adO : Nat) (rO : Nat → Nat) (oO : Nat → Int32) (aO : Nat → Nat → Int32) (p0 : Int32) (hw : -7 < p0.toInt ∧ p0.toInt ≤ 0) : Xi l yX7_lower (wm yX7_lower cX7_lower 2 (some .int)) (xR (0) (0)) D (tyA cI cL) [.ref adO, .int p0] [(adO, .inr (7, [.ref (rO 0), .ref (rO 1), .ref (rO 2), .ref (rO 3), .ref (rO 4), .ref (rO 5), .ref (rO 6), .ref (rO 7), .ref (rO 8), .ref (rO 9), .ref (rO 10), .ref (rO 11), .ref (rO 12), .int (oO 13), .int (oO 14), .int (oO 15), .int (oO 16), .int (oO 17), .int (oO 18), .ref (rO 19), .ref (rO 20), .ref (rO 21), .ref (rO 22), .int (oO 23), .int (oO 24), .int (oO 25), .ref (rO 26), .int (oO 27), .int (oO 28), .int (oO 29), .int (oO 30), .int (oO 31), .int (oO 32), .int (oO 33), .int (oO 34), .int (oO 35), .int (oO 36), .int (oO 37), .ref (rO 38), .ref (rO 39), .ref (rO 40), .int (oO 41), .int (oO 42), .int (oO 43), .ref (rO 44), .int (oO 45)])), ((rO 0), .inl (cI, 7, .inl (aO 0))), ((rO 1), .inl (cI, 8, .inl (aO 1))), ((rO 2), .inl (cI, 8, .inl (aO 2))), ((rO 3), .inl (cI, 8, .inl (aO 3))), ((rO 4), .inl (cI, 8, .inl (aO 4))), ((rO 5), .inl (cI, 4, .inl (aO 5))), ((rO 6), .inl (cI, 4, .inl (aO 6))), ((rO 7), .inl (cI, 4, .inl (aO 7))), ((rO 8), .inl (cI, 4, .inl (aO 8))), ((rO 9), .inl (cI, 4, .inl (aO 9))), ((rO 10), .inl (cI, 4, .inl (aO 10))), ((rO 11), .inl (cI, 4, .inl (aO 11))), ((rO 12), .inl (cI, 4, .inl (aO 12))), ((rO 19), .inl (cI, 96, .inl (aO 19))), ((rO 20), .inl (cI, 48, .inl (aO 20))), ((rO 21), .inl (cI, 48, .inl (aO 21))), ((rO 22), .inl (cI, 192, .inl (aO 22))), ((rO 26), .inl (cI, 160, .inl (aO 26))), ((rO 38), .inl (cI, 54, .inl (aO 38))), ((rO 39), .inl (cI, 9, .inl (aO 39))), ((rO 40), .inl (cI, 9, .inl (aO 40))), ((rO 44), .inl (cI, 12, .inl (aO 44)))] [(adO, .inr (7, [.ref (rO 0), .ref (rO 1), .ref (rO 2), .ref (rO 3), .ref (rO 4), .ref (rO 5), .ref (rO 6), .ref (rO 7), .ref (rO 8), .ref (rO 9), .ref (rO 10), .ref (rO 11), .ref (rO 12), .int (oO 13), .int (oO 14), .int (oO 15), .int (oO 16), .int (oO 17), .int (oO 18), .ref (rO 19), .ref (rO 20), .ref (rO 21), .ref (rO 22), .int (oO 23), .int (oO 24), .int (oO 25), .ref (rO 26), .int (oO 27), .int (oO 28), .int (oO 29), .int (oO 30), .int (oO 31), .int (oO 32), .int (oO 33), .int (oO 34), .int (oO 35), .int (oO 36), .int (oO 37), .ref (rO 38), .ref (rO 39), .ref (rO 40), .int (oO 41), .int (oO 42), .int (oO 43), .ref (rO 44), .int (oO 45)])), ((rO 0), .inl (cI, 7, .inl (F_X7_lower oO aO p0).2)), ((rO 1), .inl (cI, 8, .inl (aO 1))), ((rO 2), .inl (cI, 8, .inl (aO 2))), ((rO 3), .inl (cI, 8, .inl (aO 3))), ((rO 4), .inl (cI, 8, .inl (aO 4))), ((rO 5), .inl (cI, 4, .inl (aO 5))), ((rO 6), .inl (cI, 4, .inl (aO 6))), ((rO 7), .inl (cI, 4, .inl (aO 7))), ((rO 8), .inl (cI, 4, .inl (aO 8))), ((rO 9), .inl (cI, 4, .inl (aO 9))), ((rO 10), .inl (cI, 4, .inl (aO 10))), ((rO 11), .inl (cI, 4, .inl (aO 11))), ((rO 12), .inl (cI, 4, .inl (aO 12))), ((rO 19), .inl (cI, 96, .inl (aO 19))), ((rO 20), .inl (cI, 48, .inl (aO 20))), ((rO 21), .inl (cI, 48, .inl (aO 21))), ((rO 22), .inl (cI, 192, .inl (aO 22))), ((rO 26), .inl (cI, 160, .inl (aO 26))), ((rO 38), .inl (cI, 54, .inl (aO 38))), ((rO 39), .inl (cI, 9, .inl (aO 39))), ((rO 40), .inl (cI, 9, .inl (aO 40))), ((rO 44), .inl (cI, 12, .inl (aO 44)))] (F_X7_lower oO aO p0).1 := by
  intro sz
  refine x_in (cc := cX7_lower) (maxL := 2) (ret := (some .int)) (by decide) rfl (Nat.le_of_ble_eq_true rfl) (fun p e s m below meth c A ls hfix hr hlocks hN hK hP hAe hD hA hS hl => ?_)
  obtain ⟨hx, hb, hml, hown, hts⟩ := hfix
  rw [← hAe]
  clear hAe
  have hown : s.vm.findClass RX7 = some m.cls := hown
  have htL : ∀ w ∈ wsL_law, w.before ([.ref adO, .int p0] : List Value).toArray s = true := fun w h => hts w (List.mem_cons_of_mem _ h)
  have hl : lv_has ls 2 [(0, .ref adO), (1, .int p0)] := hl
  refine lv_aload_n hx hb dX7_lower_0 rfl (lv_at hl 0 rfl) ?_
  refine va_get (D := D) (ci := 7) (v := .ref (rO 0)) (C := RX7) (T := TX7) (N := 46) hx hb hts (fun _ h => w_in (inlX7 _ h)) hown hK hP 0 rfl rfl 0 (by decide) (htL _ wd_105) (fun _ h9 => h9) rfl dX7_lower_1 ?_
  refine lv_iload_n hx hb dX7_lower_4 rfl (lv_at hl 1 rfl) ?_
  refine lv_ineg hx hb dX7_lower_5 ?_
  refine lv_topi (fun x_1 ex_1 => ?_)
  refine lv_dup2_11 hx hb dX7_lower_6 rfl rfl ?_
  refine va_iald hx hb hK hP 1 0 rfl rfl (vp_in_iff.mpr (by have l0 : (0 : Int32).toInt = 0 := rfl; have l1 : (1 : Int32).toInt = 1 := rfl; (try have qex_1 := i_neg ex_1 (by omega)); omega)) dX7_lower_7 ?_
  refine lv_topi (fun x_2 ex_2 => ?_)
  refine lv_iconst (v := 1) hx hb dX7_lower_8 (by decide) ?_
  refine lv_iadd hx hb dX7_lower_9 ?_
  refine lv_topi (fun x_3 ex_3 => ?_)
  refine va_iast hx hb hK hP hD hS 1 0 rfl rfl (vp_in_iff.mpr (by have l0 : (0 : Int32).toInt = 0 := rfl; have l1 : (1 : Int32).toInt = 1 := rfl; have qex_2 := congrArg Int32.toInt ex_2; (try have qex_1 := i_neg ex_1 (by omega)); (try have qex_3 := i_add ex_3 (by omega) (by omega)); omega)) dX7_lower_10 (fun H locs hP hD hS => ?_)
  have hP : va_P D vwCl [(adO, .inr (7, [.ref (rO 0), .ref (rO 1), .ref (rO 2), .ref (rO 3), .ref (rO 4), .ref (rO 5), .ref (rO 6), .ref (rO 7), .ref (rO 8), .ref (rO 9), .ref (rO 10), .ref (rO 11), .ref (rO 12), .int (oO 13), .int (oO 14), .int (oO 15), .int (oO 16), .int (oO 17), .int (oO 18), .ref (rO 19), .ref (rO 20), .ref (rO 21), .ref (rO 22), .int (oO 23), .int (oO 24), .int (oO 25), .ref (rO 26), .int (oO 27), .int (oO 28), .int (oO 29), .int (oO 30), .int (oO 31), .int (oO 32), .int (oO 33), .int (oO 34), .int (oO 35), .int (oO 36), .int (oO 37), .ref (rO 38), .ref (rO 39), .ref (rO 40), .int (oO 41), .int (oO 42), .int (oO 43), .ref (rO 44), .int (oO 45)])), ((rO 0), .inl (cI, 7, .inl (upd (aO 0) x_1.toNatClampNeg x_3))), ((rO 1), .inl (cI, 8, .inl (aO 1))), ((rO 2), .inl (cI, 8, .inl (aO 2))), ((rO 3), .inl (cI, 8, .inl (aO 3))), ((rO 4), .inl (cI, 8, .inl (aO 4))), ((rO 5), .inl (cI, 4, .inl (aO 5))), ((rO 6), .inl (cI, 4, .inl (aO 6))), ((rO 7), .inl (cI, 4, .inl (aO 7))), ((rO 8), .inl (cI, 4, .inl (aO 8))), ((rO 9), .inl (cI, 4, .inl (aO 9))), ((rO 10), .inl (cI, 4, .inl (aO 10))), ((rO 11), .inl (cI, 4, .inl (aO 11))), ((rO 12), .inl (cI, 4, .inl (aO 12))), ((rO 19), .inl (cI, 96, .inl (aO 19))), ((rO 20), .inl (cI, 48, .inl (aO 20))), ((rO 21), .inl (cI, 48, .inl (aO 21))), ((rO 22), .inl (cI, 192, .inl (aO 22))), ((rO 26), .inl (cI, 160, .inl (aO 26))), ((rO 38), .inl (cI, 54, .inl (aO 38))), ((rO 39), .inl (cI, 9, .inl (aO 39))), ((rO 40), .inl (cI, 9, .inl (aO 40))), ((rO 44), .inl (cI, 12, .inl (aO 44)))] _ := hP
  have hD : va_D A [(adO, .inr (7, [.ref (rO 0), .ref (rO 1), .ref (rO 2), .ref (rO 3), .ref (rO 4), .ref (rO 5), .ref (rO 6), .ref (rO 7), .ref (rO 8), .ref (rO 9), .ref (rO 10), .ref (rO 11), .ref (rO 12), .int (oO 13), .int (oO 14), .int (oO 15), .int (oO 16), .int (oO 17), .int (oO 18), .ref (rO 19), .ref (rO 20), .ref (rO 21), .ref (rO 22), .int (oO 23), .int (oO 24), .int (oO 25), .ref (rO 26), .int (oO 27), .int (oO 28), .int (oO 29), .int (oO 30), .int (oO 31), .int (oO 32), .int (oO 33), .int (oO 34), .int (oO 35), .int (oO 36), .int (oO 37), .ref (rO 38), .ref (rO 39), .ref (rO 40), .int (oO 41), .int (oO 42), .int (oO 43), .ref (rO 44), .int (oO 45)])), ((rO 0), .inl (cI, 7, .inl (upd (aO 0) x_1.toNatClampNeg x_3))), ((rO 1), .inl (cI, 8, .inl (aO 1))), ((rO 2), .inl (cI, 8, .inl (aO 2))), ((rO 3), .inl (cI, 8, .inl (aO 3))), ((rO 4), .inl (cI, 8, .inl (aO 4))), ((rO 5), .inl (cI, 4, .inl (aO 5))), ((rO 6), .inl (cI, 4, .inl (aO 6))), ((rO 7), .inl (cI, 4, .inl (aO 7))), ((rO 8), .inl (cI, 4, .inl (aO 8))), ((rO 9), .inl (cI, 4, .inl (aO 9))), ((rO 10), .inl (cI, 4, .inl (aO 10))), ((rO 11), .inl (cI, 4, .inl (aO 11))), ((rO 12), .inl (cI, 4, .inl (aO 12))), ((rO 19), .inl (cI, 96, .inl (aO 19))), ((rO 20), .inl (cI, 48, .inl (aO 20))), ((rO 21), .inl (cI, 48, .inl (aO 21))), ((rO 22), .inl (cI, 192, .inl (aO 22))), ((rO 26), .inl (cI, 160, .inl (aO 26))), ((rO 38), .inl (cI, 54, .inl (aO 38))), ((rO 39), .inl (cI, 9, .inl (aO 39))), ((rO 40), .inl (cI, 9, .inl (aO 40))), ((rO 44), .inl (cI, 12, .inl (aO 44)))] := hD
  refine lv_ldc (v := 1000000000) hx hb hown (htL _ wd_744) dX7_lower_11 ?_
  refine lv_iload_n hx hb dX7_lower_13 rfl (lv_at hl 1 rfl) ?_
  refine lv_isub hx hb dX7_lower_14 ?_
  refine lv_topi (fun x_4 ex_4 => ?_)
  have hF1 : F_X7_lower oO aO p0 = (x_4, (upd (aO 0) x_1.toNatClampNeg x_3)) := (eX7_lower_1 oO aO p0 x_1 x_2 x_3 x_4 ex_1 ex_2 ex_3 ex_4)
  exact xi_ret hx hb hr hlocks hP hS (congrArg (fun o : Int32 × (Nat → Int32) => ([(adO, .inr (7, [.ref (rO 0), .ref (rO 1), .ref (rO 2), .ref (rO 3), .ref (rO 4), .ref (rO 5), .ref (rO 6), .ref (rO 7), .ref (rO 8), .ref (rO 9), .ref (rO 10), .ref (rO 11), .ref (rO 12), .int (oO 13), .int (oO 14), .int (oO 15), .int (oO 16), .int (oO 17), .int (oO 18), .ref (rO 19), .ref (rO 20), .ref (rO 21), .ref (rO 22), .int (oO 23), .int (oO 24), .int (oO 25), .ref (rO 26), .int (oO 27), .int (oO 28), .int (oO 29), .int (oO 30), .int (oO 31), .int (oO 32), .int (oO 33), .int (oO 34), .int (oO 35), .int (oO 36), .int (oO 37), .ref (rO 38), .ref (rO 39), .ref (rO 40), .int (oO 41), .int (oO 42), .int (oO 43), .ref (rO 44), .int (oO 45)])), ((rO 0), .inl (cI, 7, .inl o.2)), ((rO 1), .inl (cI, 8, .inl (aO 1))), ((rO 2), .inl (cI, 8, .inl (aO 2))), ((rO 3), .inl (cI, 8, .inl (aO 3))), ((rO 4), .inl (cI, 8, .inl (aO 4))), ((rO 5), .inl (cI, 4, .inl (aO 5))), ((rO 6), .inl (cI, 4, .inl (aO 6))), ((rO 7), .inl (cI, 4, .inl (aO 7))), ((rO 8), .inl (cI, 4, .inl (aO 8))), ((rO 9), .inl (cI, 4, .inl (aO 9))), ((rO 10), .inl (cI, 4, .inl (aO 10))), ((rO 11), .inl (cI, 4, .inl (aO 11))), ((rO 12), .inl (cI, 4, .inl (aO 12))), ((rO 19), .inl (cI, 96, .inl (aO 19))), ((rO 20), .inl (cI, 48, .inl (aO 20))), ((rO 21), .inl (cI, 48, .inl (aO 21))), ((rO 22), .inl (cI, 192, .inl (aO 22))), ((rO 26), .inl (cI, 160, .inl (aO 26))), ((rO 38), .inl (cI, 54, .inl (aO 38))), ((rO 39), .inl (cI, 9, .inl (aO 39))), ((rO 40), .inl (cI, 9, .inl (aO 40))), ((rO 44), .inl (cI, 12, .inl (aO 44)))] : va_W)) hF1).symm (congrArg (fun o : Int32 × (Nat → Int32) => o.1) hF1).symm dX7_lower_15

noncomputable def F_X7_lowest (oO : Nat → Int32) (aO : Nat → Nat → Int32) (p0 : Int32) : Int64 × (Nat → Int32) :=
  let x_1 : Int32 := (-p0)
  let x_2 : Int32 := ((aO 0) x_1.toNatClampNeg)
  let x_3 : Int32 := (x_2 + 1)
  let x_4 : Int64 := (p0.toInt64)
  let x_5 : Int64 := (4000000000000000000 - x_4)
  (x_5, (upd (aO 0) x_1.toNatClampNeg x_3))
set_option maxRecDepth 100000 in
theorem eX7_lowest_1 (oO : Nat → Int32) (aO : Nat → Nat → Int32) (p0 : Int32) (x_1 : Int32) (x_2 : Int32) (x_3 : Int32) (x_4 : Int64) (x_5 : Int64) (ex_1 : x_1 = (-p0)) (ex_2 : x_2 = ((aO 0) x_1.toNatClampNeg)) (ex_3 : x_3 = (x_2 + 1)) (ex_4 : x_4 = (p0.toInt64)) (ex_5 : x_5 = (4000000000000000000 - x_4)) : F_X7_lowest oO aO p0 = (x_5, (upd (aO 0) x_1.toNatClampNeg x_3)) := by subst ex_1 ex_2 ex_3 ex_4 ex_5; exact rfl
set_option maxHeartbeats 4000000 in
set_option maxRecDepth 100000 in
theorem c_X7_lowest (l : Launch) (D : va_G) (cI cL : ClassId)   (adO : Nat) (rO : Nat → Nat) (oO : Nat → Int32) (aO : Nat → Nat → Int32) (p0 : Int32) (hw : -7 < p0.toInt ∧ p0.toInt ≤ 0) : Xl l yX7_lowest (wm yX7_lowest cX7_lowest 2 (some .long)) (xR (0) (0)) D (tyA cI cL) [.ref adO, .int p0] [(adO, .inr (7, [.ref (rO 0), .ref (rO 1), .ref (rO 2), .ref (rO 3), .ref (rO 4), .ref (rO 5), .ref (rO 6), .ref (rO 7), .ref (rO 8), .ref (rO 9), .ref (rO 10), .ref (rO 11), .ref (rO 12), .int (oO 13), .int (oO 14), .int (oO 15), .int (oO 16), .int (oO 17), .int (oO 18), .ref (rO 19), .ref (rO 20), .ref (rO 21), .ref (rO 22), .int (oO 23), .int (oO 24), .int (oO 25), .ref (rO 26), .int (oO 27), .int (oO 28), .int (oO 29), .int (oO 30), .int (oO 31), .int (oO 32), .int (oO 33), .int (oO 34), .int (oO 35), .int (oO 36), .int (oO 37), .ref (rO 38), .ref (rO 39), .ref (rO 40), .int (oO 41), .int (oO 42), .int (oO 43), .ref (rO 44), .int (oO 45)])), ((rO 0), .inl (cI, 7, .inl (aO 0))), ((rO 1), .inl (cI, 8, .inl (aO 1))), ((rO 2), .inl (cI, 8, .inl (aO 2))), ((rO 3), .inl (cI, 8, .inl (aO 3))), ((rO 4), .inl (cI, 8, .inl (aO 4))), ((rO 5), .inl (cI, 4, .inl (aO 5))), ((rO 6), .inl (cI, 4, .inl (aO 6))), ((rO 7), .inl (cI, 4, .inl (aO 7))), ((rO 8), .inl (cI, 4, .inl (aO 8))), ((rO 9), .inl (cI, 4, .inl (aO 9))), ((rO 10), .inl (cI, 4, .inl (aO 10))), ((rO 11), .inl (cI, 4, .inl (aO 11))), ((rO 12), .inl (cI, 4, .inl (aO 12))), ((rO 19), .inl (cI, 96, .inl (aO 19))), ((rO 20), .inl (cI, 48, .inl (aO 20))), ((rO 21), .inl (cI, 48, .inl (aO 21))), ((rO 22), .inl (cI, 192, .inl (aO 22))), ((rO 26), .inl (cI, 160, .inl (aO 26))), ((rO 38), .inl (cI, 54, .inl (aO 38))), ((rO 39), .inl (cI, 9, .inl (aO 39))), ((rO 40), .inl (cI, 9, .inl (aO 40))), ((rO 44), .inl (cI, 12, .inl (aO 44)))] [(adO, .inr (7, [.ref (rO 0), .ref (rO 1), .ref (rO 2), .ref (rO 3), .ref (rO 4), .ref (rO 5), .ref (rO 6), .ref (rO 7), .ref (rO 8), .ref (rO 9), .ref (rO 10), .ref (rO 11), .ref (rO 12), .int (oO 13), .int (oO 14), .int (oO 15), .int (oO 16), .int (oO 17), .int (oO 18), .ref (rO 19), .ref (rO 20), .ref (rO 21), .ref (rO 22), .int (oO 23), .int (oO 24), .int (oO 25), .ref (rO 26), .int (oO 27), .int (oO 28), .int (oO 29), .int (oO 30), .int (oO 31), .int (oO 32), .int (oO 33), .int (oO 34), .int (oO 35), .int (oO 36), .int (oO 37), .ref (rO 38), .ref (rO 39), .ref (rO 40), .int (oO 41), .int (oO 42), .int (oO 43), .ref (rO 44), .int (oO 45)])), ((rO 0), .inl (cI, 7, .inl (F_X7_lowest oO aO p0).2)), ((rO 1), .inl (cI, 8, .inl (aO 1))), ((rO 2), .inl (cI, 8, .inl (aO 2))), ((rO 3), .inl (cI, 8, .inl (aO 3))), ((rO 4), .inl (cI, 8, .inl (aO 4))), ((rO 5), .inl (cI, 4, .inl (aO 5))), ((rO 6), .inl (cI, 4, .inl (aO 6))), ((rO 7), .inl (cI, 4, .inl (aO 7))), ((rO 8), .inl (cI, 4, .inl (aO 8))), ((rO 9), .inl (cI, 4, .inl (aO 9))), ((rO 10), .inl (cI, 4, .inl (aO 10))), ((rO 11), .inl (cI, 4, .inl (aO 11))), ((rO 12), .inl (cI, 4, .inl (aO 12))), ((rO 19), .inl (cI, 96, .inl (aO 19))), ((rO 20), .inl (cI, 48, .inl (aO 20))), ((rO 21), .inl (cI, 48, .inl (aO 21))), ((rO 22), .inl (cI, 192, .inl (aO 22))), ((rO 26), .inl (cI, 160, .inl (aO 26))), ((rO 38), .inl (cI, 54, .inl (aO 38))), ((rO 39), .inl (cI, 9, .inl (aO 39))), ((rO 40), .inl (cI, 9, .inl (aO 40))), ((rO 44), .inl (cI, 12, .inl (aO 44)))] (F_X7_lowest oO aO p0).1 := by
  intro sz
  refine x_in (cc := cX7_lowest) (maxL := 2) (ret := (some .long)) (by decide) rfl (Nat.le_of_ble_eq_true rfl) (fun p e s m below meth c A ls hfix hr hlocks hN hK hP hAe hD hA hS hl => ?_)
  obtain ⟨hx, hb, hml, hown, hts⟩ := hfix
  rw [← hAe]
  clear hAe
  have hown : s.vm.findClass RX7 = some m.cls := hown
  have htL : ∀ w ∈ wsL_law, w.before ([.ref adO, .int p0] : List Value).toArray s = true := fun w h => hts w (List.mem_cons_of_mem _ h)
  have hl : lv_has ls 2 [(0, .ref adO), (1, .int p0)] := hl
  refine lv_aload_n hx hb dX7_lowest_0 rfl (lv_at hl 0 rfl) ?_
  refine va_get (D := D) (ci := 7) (v := .ref (rO 0)) (C := RX7) (T := TX7) (N := 46) hx hb hts (fun _ h => w_in (inlX7 _ h)) hown hK hP 0 rfl rfl 0 (by decide) (htL _ wd_105) (fun _ h9 => h9) rfl dX7_lowest_1 ?_
  refine lv_iload_n hx hb dX7_lowest_4 rfl (lv_at hl 1 rfl) ?_
  refine lv_ineg hx hb dX7_lowest_5 ?_
  refine lv_topi (fun x_1 ex_1 => ?_)
  refine lv_dup2_11 hx hb dX7_lowest_6 rfl rfl ?_
  refine va_iald hx hb hK hP 1 0 rfl rfl (vp_in_iff.mpr (by have l0 : (0 : Int32).toInt = 0 := rfl; have l1 : (1 : Int32).toInt = 1 := rfl; (try have qex_1 := i_neg ex_1 (by omega)); omega)) dX7_lowest_7 ?_
  refine lv_topi (fun x_2 ex_2 => ?_)
  refine lv_iconst (v := 1) hx hb dX7_lowest_8 (by decide) ?_
  refine lv_iadd hx hb dX7_lowest_9 ?_
  refine lv_topi (fun x_3 ex_3 => ?_)
  refine va_iast hx hb hK hP hD hS 1 0 rfl rfl (vp_in_iff.mpr (by have l0 : (0 : Int32).toInt = 0 := rfl; have l1 : (1 : Int32).toInt = 1 := rfl; have qex_2 := congrArg Int32.toInt ex_2; (try have qex_1 := i_neg ex_1 (by omega)); (try have qex_3 := i_add ex_3 (by omega) (by omega)); omega)) dX7_lowest_10 (fun H locs hP hD hS => ?_)
  have hP : va_P D vwCl [(adO, .inr (7, [.ref (rO 0), .ref (rO 1), .ref (rO 2), .ref (rO 3), .ref (rO 4), .ref (rO 5), .ref (rO 6), .ref (rO 7), .ref (rO 8), .ref (rO 9), .ref (rO 10), .ref (rO 11), .ref (rO 12), .int (oO 13), .int (oO 14), .int (oO 15), .int (oO 16), .int (oO 17), .int (oO 18), .ref (rO 19), .ref (rO 20), .ref (rO 21), .ref (rO 22), .int (oO 23), .int (oO 24), .int (oO 25), .ref (rO 26), .int (oO 27), .int (oO 28), .int (oO 29), .int (oO 30), .int (oO 31), .int (oO 32), .int (oO 33), .int (oO 34), .int (oO 35), .int (oO 36), .int (oO 37), .ref (rO 38), .ref (rO 39), .ref (rO 40), .int (oO 41), .int (oO 42), .int (oO 43), .ref (rO 44), .int (oO 45)])), ((rO 0), .inl (cI, 7, .inl (upd (aO 0) x_1.toNatClampNeg x_3))), ((rO 1), .inl (cI, 8, .inl (aO 1))), ((rO 2), .inl (cI, 8, .inl (aO 2))), ((rO 3), .inl (cI, 8, .inl (aO 3))), ((rO 4), .inl (cI, 8, .inl (aO 4))), ((rO 5), .inl (cI, 4, .inl (aO 5))), ((rO 6), .inl (cI, 4, .inl (aO 6))), ((rO 7), .inl (cI, 4, .inl (aO 7))), ((rO 8), .inl (cI, 4, .inl (aO 8))), ((rO 9), .inl (cI, 4, .inl (aO 9))), ((rO 10), .inl (cI, 4, .inl (aO 10))), ((rO 11), .inl (cI, 4, .inl (aO 11))), ((rO 12), .inl (cI, 4, .inl (aO 12))), ((rO 19), .inl (cI, 96, .inl (aO 19))), ((rO 20), .inl (cI, 48, .inl (aO 20))), ((rO 21), .inl (cI, 48, .inl (aO 21))), ((rO 22), .inl (cI, 192, .inl (aO 22))), ((rO 26), .inl (cI, 160, .inl (aO 26))), ((rO 38), .inl (cI, 54, .inl (aO 38))), ((rO 39), .inl (cI, 9, .inl (aO 39))), ((rO 40), .inl (cI, 9, .inl (aO 40))), ((rO 44), .inl (cI, 12, .inl (aO 44)))] _ := hP
  have hD : va_D A [(adO, .inr (7, [.ref (rO 0), .ref (rO 1), .ref (rO 2), .ref (rO 3), .ref (rO 4), .ref (rO 5), .ref (rO 6), .ref (rO 7), .ref (rO 8), .ref (rO 9), .ref (rO 10), .ref (rO 11), .ref (rO 12), .int (oO 13), .int (oO 14), .int (oO 15), .int (oO 16), .int (oO 17), .int (oO 18), .ref (rO 19), .ref (rO 20), .ref (rO 21), .ref (rO 22), .int (oO 23), .int (oO 24), .int (oO 25), .ref (rO 26), .int (oO 27), .int (oO 28), .int (oO 29), .int (oO 30), .int (oO 31), .int (oO 32), .int (oO 33), .int (oO 34), .int (oO 35), .int (oO 36), .int (oO 37), .ref (rO 38), .ref (rO 39), .ref (rO 40), .int (oO 41), .int (oO 42), .int (oO 43), .ref (rO 44), .int (oO 45)])), ((rO 0), .inl (cI, 7, .inl (upd (aO 0) x_1.toNatClampNeg x_3))), ((rO 1), .inl (cI, 8, .inl (aO 1))), ((rO 2), .inl (cI, 8, .inl (aO 2))), ((rO 3), .inl (cI, 8, .inl (aO 3))), ((rO 4), .inl (cI, 8, .inl (aO 4))), ((rO 5), .inl (cI, 4, .inl (aO 5))), ((rO 6), .inl (cI, 4, .inl (aO 6))), ((rO 7), .inl (cI, 4, .inl (aO 7))), ((rO 8), .inl (cI, 4, .inl (aO 8))), ((rO 9), .inl (cI, 4, .inl (aO 9))), ((rO 10), .inl (cI, 4, .inl (aO 10))), ((rO 11), .inl (cI, 4, .inl (aO 11))), ((rO 12), .inl (cI, 4, .inl (aO 12))), ((rO 19), .inl (cI, 96, .inl (aO 19))), ((rO 20), .inl (cI, 48, .inl (aO 20))), ((rO 21), .inl (cI, 48, .inl (aO 21))), ((rO 22), .inl (cI, 192, .inl (aO 22))), ((rO 26), .inl (cI, 160, .inl (aO 26))), ((rO 38), .inl (cI, 54, .inl (aO 38))), ((rO 39), .inl (cI, 9, .inl (aO 39))), ((rO 40), .inl (cI, 9, .inl (aO 40))), ((rO 44), .inl (cI, 12, .inl (aO 44)))] := hD
  refine lv_ldc2 (v := 4000000000000000000) hx hb hown (htL _ wd_788) dX7_lowest_11 ?_
  refine lv_iload_n hx hb dX7_lowest_14 rfl (lv_at hl 1 rfl) ?_
  refine lv_i2l hx hb dX7_lowest_15 rfl ?_
  refine lv_topl (fun x_4 ex_4 => ?_)
  refine lv_lsub hx hb dX7_lowest_16 ?_
  refine lv_topl (fun x_5 ex_5 => ?_)
  have hF1 : F_X7_lowest oO aO p0 = (x_5, (upd (aO 0) x_1.toNatClampNeg x_3)) := (eX7_lowest_1 oO aO p0 x_1 x_2 x_3 x_4 x_5 ex_1 ex_2 ex_3 ex_4 ex_5)
  exact xl_ret hx hb hr hlocks hP hS (congrArg (fun o : Int64 × (Nat → Int32) => ([(adO, .inr (7, [.ref (rO 0), .ref (rO 1), .ref (rO 2), .ref (rO 3), .ref (rO 4), .ref (rO 5), .ref (rO 6), .ref (rO 7), .ref (rO 8), .ref (rO 9), .ref (rO 10), .ref (rO 11), .ref (rO 12), .int (oO 13), .int (oO 14), .int (oO 15), .int (oO 16), .int (oO 17), .int (oO 18), .ref (rO 19), .ref (rO 20), .ref (rO 21), .ref (rO 22), .int (oO 23), .int (oO 24), .int (oO 25), .ref (rO 26), .int (oO 27), .int (oO 28), .int (oO 29), .int (oO 30), .int (oO 31), .int (oO 32), .int (oO 33), .int (oO 34), .int (oO 35), .int (oO 36), .int (oO 37), .ref (rO 38), .ref (rO 39), .ref (rO 40), .int (oO 41), .int (oO 42), .int (oO 43), .ref (rO 44), .int (oO 45)])), ((rO 0), .inl (cI, 7, .inl o.2)), ((rO 1), .inl (cI, 8, .inl (aO 1))), ((rO 2), .inl (cI, 8, .inl (aO 2))), ((rO 3), .inl (cI, 8, .inl (aO 3))), ((rO 4), .inl (cI, 8, .inl (aO 4))), ((rO 5), .inl (cI, 4, .inl (aO 5))), ((rO 6), .inl (cI, 4, .inl (aO 6))), ((rO 7), .inl (cI, 4, .inl (aO 7))), ((rO 8), .inl (cI, 4, .inl (aO 8))), ((rO 9), .inl (cI, 4, .inl (aO 9))), ((rO 10), .inl (cI, 4, .inl (aO 10))), ((rO 11), .inl (cI, 4, .inl (aO 11))), ((rO 12), .inl (cI, 4, .inl (aO 12))), ((rO 19), .inl (cI, 96, .inl (aO 19))), ((rO 20), .inl (cI, 48, .inl (aO 20))), ((rO 21), .inl (cI, 48, .inl (aO 21))), ((rO 22), .inl (cI, 192, .inl (aO 22))), ((rO 26), .inl (cI, 160, .inl (aO 26))), ((rO 38), .inl (cI, 54, .inl (aO 38))), ((rO 39), .inl (cI, 9, .inl (aO 39))), ((rO 40), .inl (cI, 9, .inl (aO 40))), ((rO 44), .inl (cI, 12, .inl (aO 44)))] : va_W)) hF1).symm (congrArg (fun o : Int64 × (Nat → Int32) => o.1) hF1).symm dX7_lowest_17

noncomputable def F_X7_isLine (oO : Nat → Int32) (aO : Nat → Nat → Int32) (p0 : Int32) : Int32 :=
  if p0 < 0 then
  (0)
  else
  (if (oO 13) ≤ p0 then
  (0)
  else
  (1))
theorem nz_X7_isLine (oO : Nat → Int32) (aO : Nat → Nat → Int32) (p0 : Int32) : narrow .boolean (.int (F_X7_isLine oO aO p0)) = .int (F_X7_isLine oO aO p0) := by
  unfold F_X7_isLine
  try dsimp only
  (repeat' split) <;> rfl
set_option maxRecDepth 100000 in
theorem eX7_isLine_1 (oO : Nat → Int32) (aO : Nat → Nat → Int32) (p0 : Int32) (c_1 : p0 < 0) : F_X7_isLine oO aO p0 = 0 := by exact (if_pos c_1).trans (rfl)
set_option maxRecDepth 100000 in
theorem eX7_isLine_2 (oO : Nat → Int32) (aO : Nat → Nat → Int32) (p0 : Int32) (c_1 : ¬ (p0 < 0)) (c_2 : (oO 13) ≤ p0) : F_X7_isLine oO aO p0 = 0 := by exact (if_neg c_1).trans ((if_pos c_2).trans (rfl))
set_option maxRecDepth 100000 in
theorem eX7_isLine_3 (oO : Nat → Int32) (aO : Nat → Nat → Int32) (p0 : Int32) (c_1 : ¬ (p0 < 0)) (c_2 : ¬ ((oO 13) ≤ p0)) : F_X7_isLine oO aO p0 = 1 := by exact (if_neg c_1).trans ((if_neg c_2).trans (rfl))
set_option maxHeartbeats 4000000 in
set_option maxRecDepth 100000 in
theorem c_X7_isLine (l : Launch) (D : va_G) (cI cL : ClassId)   (adO : Nat) (rO : Nat → Nat) (oO : Nat → Int32) (aO : Nat → Nat → Int32) (p0 : Int32)  : Xi l yX7_isLine (wm yX7_isLine cX7_isLine 2 (some .boolean)) (xR (0) (0)) D (tyA cI cL) [.ref adO, .int p0] [(adO, .inr (7, [.ref (rO 0), .ref (rO 1), .ref (rO 2), .ref (rO 3), .ref (rO 4), .ref (rO 5), .ref (rO 6), .ref (rO 7), .ref (rO 8), .ref (rO 9), .ref (rO 10), .ref (rO 11), .ref (rO 12), .int (oO 13), .int (oO 14), .int (oO 15), .int (oO 16), .int (oO 17), .int (oO 18), .ref (rO 19), .ref (rO 20), .ref (rO 21), .ref (rO 22), .int (oO 23), .int (oO 24), .int (oO 25), .ref (rO 26), .int (oO 27), .int (oO 28), .int (oO 29), .int (oO 30), .int (oO 31), .int (oO 32), .int (oO 33), .int (oO 34), .int (oO 35), .int (oO 36), .int (oO 37), .ref (rO 38), .ref (rO 39), .ref (rO 40), .int (oO 41), .int (oO 42), .int (oO 43), .ref (rO 44), .int (oO 45)])), ((rO 0), .inl (cI, 7, .inl (aO 0))), ((rO 1), .inl (cI, 8, .inl (aO 1))), ((rO 2), .inl (cI, 8, .inl (aO 2))), ((rO 3), .inl (cI, 8, .inl (aO 3))), ((rO 4), .inl (cI, 8, .inl (aO 4))), ((rO 5), .inl (cI, 4, .inl (aO 5))), ((rO 6), .inl (cI, 4, .inl (aO 6))), ((rO 7), .inl (cI, 4, .inl (aO 7))), ((rO 8), .inl (cI, 4, .inl (aO 8))), ((rO 9), .inl (cI, 4, .inl (aO 9))), ((rO 10), .inl (cI, 4, .inl (aO 10))), ((rO 11), .inl (cI, 4, .inl (aO 11))), ((rO 12), .inl (cI, 4, .inl (aO 12))), ((rO 19), .inl (cI, 96, .inl (aO 19))), ((rO 20), .inl (cI, 48, .inl (aO 20))), ((rO 21), .inl (cI, 48, .inl (aO 21))), ((rO 22), .inl (cI, 192, .inl (aO 22))), ((rO 26), .inl (cI, 160, .inl (aO 26))), ((rO 38), .inl (cI, 54, .inl (aO 38))), ((rO 39), .inl (cI, 9, .inl (aO 39))), ((rO 40), .inl (cI, 9, .inl (aO 40))), ((rO 44), .inl (cI, 12, .inl (aO 44)))] [(adO, .inr (7, [.ref (rO 0), .ref (rO 1), .ref (rO 2), .ref (rO 3), .ref (rO 4), .ref (rO 5), .ref (rO 6), .ref (rO 7), .ref (rO 8), .ref (rO 9), .ref (rO 10), .ref (rO 11), .ref (rO 12), .int (oO 13), .int (oO 14), .int (oO 15), .int (oO 16), .int (oO 17), .int (oO 18), .ref (rO 19), .ref (rO 20), .ref (rO 21), .ref (rO 22), .int (oO 23), .int (oO 24), .int (oO 25), .ref (rO 26), .int (oO 27), .int (oO 28), .int (oO 29), .int (oO 30), .int (oO 31), .int (oO 32), .int (oO 33), .int (oO 34), .int (oO 35), .int (oO 36), .int (oO 37), .ref (rO 38), .ref (rO 39), .ref (rO 40), .int (oO 41), .int (oO 42), .int (oO 43), .ref (rO 44), .int (oO 45)])), ((rO 0), .inl (cI, 7, .inl (aO 0))), ((rO 1), .inl (cI, 8, .inl (aO 1))), ((rO 2), .inl (cI, 8, .inl (aO 2))), ((rO 3), .inl (cI, 8, .inl (aO 3))), ((rO 4), .inl (cI, 8, .inl (aO 4))), ((rO 5), .inl (cI, 4, .inl (aO 5))), ((rO 6), .inl (cI, 4, .inl (aO 6))), ((rO 7), .inl (cI, 4, .inl (aO 7))), ((rO 8), .inl (cI, 4, .inl (aO 8))), ((rO 9), .inl (cI, 4, .inl (aO 9))), ((rO 10), .inl (cI, 4, .inl (aO 10))), ((rO 11), .inl (cI, 4, .inl (aO 11))), ((rO 12), .inl (cI, 4, .inl (aO 12))), ((rO 19), .inl (cI, 96, .inl (aO 19))), ((rO 20), .inl (cI, 48, .inl (aO 20))), ((rO 21), .inl (cI, 48, .inl (aO 21))), ((rO 22), .inl (cI, 192, .inl (aO 22))), ((rO 26), .inl (cI, 160, .inl (aO 26))), ((rO 38), .inl (cI, 54, .inl (aO 38))), ((rO 39), .inl (cI, 9, .inl (aO 39))), ((rO 40), .inl (cI, 9, .inl (aO 40))), ((rO 44), .inl (cI, 12, .inl (aO 44)))] (F_X7_isLine oO aO p0) := by
  intro sz
  refine x_in (cc := cX7_isLine) (maxL := 2) (ret := (some .boolean)) (by decide) rfl (Nat.le_of_ble_eq_true rfl) (fun p e s m below meth c A ls hfix hr hlocks hN hK hP hAe hD hA hS hl => ?_)
  obtain ⟨hx, hb, hml, hown, hts⟩ := hfix
  rw [← hAe]
  clear hAe
  have hown : s.vm.findClass RX7 = some m.cls := hown
  have htL : ∀ w ∈ wsL_law, w.before ([.ref adO, .int p0] : List Value).toArray s = true := fun w h => hts w (List.mem_cons_of_mem _ h)
  have hl : lv_has ls 2 [(0, .ref adO), (1, .int p0)] := hl
  refine lv_iload_n hx hb dX7_isLine_0 rfl (lv_at hl 1 rfl) ?_
  refine lv_if_lt (tgt := 16) hx hb dX7_isLine_1 (by decide) (fun c_1 => ?_) (fun c_1 => ?_)
  · refine lv_iconst (v := 0) hx hb dX7_isLine_16 (by decide) ?_
    have hF1 : F_X7_isLine oO aO p0 = 0 := (eX7_isLine_1 oO aO p0 c_1)
    exact xz_ret hx hb hr hlocks hP hS rfl (congrArg (fun o : Int32 => o) hF1).symm dX7_isLine_17 rfl
  · refine lv_iload_n hx hb dX7_isLine_4 rfl (lv_at hl 1 rfl) ?_
    refine lv_aload_n hx hb dX7_isLine_5 rfl (lv_at hl 0 rfl) ?_
    refine va_get (D := D) (ci := 7) (v := .int (oO 13)) (C := RX7) (T := TX7) (N := 46) hx hb hts (fun _ h => w_in (inlX7 _ h)) hown hK hP 0 rfl rfl 13 (by decide) (htL _ wd_282) (fun _ h9 => h9) rfl dX7_isLine_6 ?_
    refine lv_icmp_ge (tgt := 16) hx hb dX7_isLine_9 (by decide) (fun c_2 => ?_) (fun c_2 => ?_)
    · refine lv_iconst (v := 0) hx hb dX7_isLine_16 (by decide) ?_
      have hF1 : F_X7_isLine oO aO p0 = 0 := (eX7_isLine_2 oO aO p0 c_1 c_2)
      exact xz_ret hx hb hr hlocks hP hS rfl (congrArg (fun o : Int32 => o) hF1).symm dX7_isLine_17 rfl
    · refine lv_iconst (v := 1) hx hb dX7_isLine_12 (by decide) ?_
      refine lv_goto (tgt := 17) hx hb dX7_isLine_13 (by decide) ?_
      have hF1 : F_X7_isLine oO aO p0 = 1 := (eX7_isLine_3 oO aO p0 c_1 c_2)
      exact xz_ret hx hb hr hlocks hP hS rfl (congrArg (fun o : Int32 => o) hF1).symm dX7_isLine_17 rfl
theorem sem_X7_isLine_n {r p : Int32} {o : Nat → Int32} {a : Nat → Nat → Int32} (e : r = F_X7_isLine o a p) (h : ¬ r = 0) : 0 ≤ p.toInt ∧ p.toInt < (o 13).toInt := by
  subst e
  unfold F_X7_isLine at h
  split at h
  · exact absurd rfl h
  · split at h
    · exact absurd rfl h
    · rename_i h1 h2
      exact ⟨i_nlt h1, i_nle h2⟩

noncomputable def F_X7_isLooker (oO : Nat → Int32) (aO : Nat → Nat → Int32) (p0 : Int32) : Int32 :=
  if p0 < 0 then
  (0)
  else
  (if (oO 14) ≤ p0 then
  (0)
  else
  (1))
theorem nz_X7_isLooker (oO : Nat → Int32) (aO : Nat → Nat → Int32) (p0 : Int32) : narrow .boolean (.int (F_X7_isLooker oO aO p0)) = .int (F_X7_isLooker oO aO p0) := by
  unfold F_X7_isLooker
  try dsimp only
  (repeat' split) <;> rfl
set_option maxRecDepth 100000 in
theorem eX7_isLooker_1 (oO : Nat → Int32) (aO : Nat → Nat → Int32) (p0 : Int32) (c_1 : p0 < 0) : F_X7_isLooker oO aO p0 = 0 := by exact (if_pos c_1).trans (rfl)
set_option maxRecDepth 100000 in
theorem eX7_isLooker_2 (oO : Nat → Int32) (aO : Nat → Nat → Int32) (p0 : Int32) (c_1 : ¬ (p0 < 0)) (c_2 : (oO 14) ≤ p0) : F_X7_isLooker oO aO p0 = 0 := by exact (if_neg c_1).trans ((if_pos c_2).trans (rfl))
set_option maxRecDepth 100000 in
theorem eX7_isLooker_3 (oO : Nat → Int32) (aO : Nat → Nat → Int32) (p0 : Int32) (c_1 : ¬ (p0 < 0)) (c_2 : ¬ ((oO 14) ≤ p0)) : F_X7_isLooker oO aO p0 = 1 := by exact (if_neg c_1).trans ((if_neg c_2).trans (rfl))
set_option maxHeartbeats 4000000 in
set_option maxRecDepth 100000 in
theorem c_X7_isLooker (l : Launch) (D : va_G) (cI cL : ClassId)   (adO : Nat) (rO : Nat → Nat) (oO : Nat → Int32) (aO : Nat → Nat → Int32) (p0 : Int32)  : Xi l yX7_isLooker (wm yX7_isLooker cX7_isLooker 2 (some .boolean)) (xR (0) (0)) D (tyA cI cL) [.ref adO, .int p0] [(adO, .inr (7, [.ref (rO 0), .ref (rO 1), .ref (rO 2), .ref (rO 3), .ref (rO 4), .ref (rO 5), .ref (rO 6), .ref (rO 7), .ref (rO 8), .ref (rO 9), .ref (rO 10), .ref (rO 11), .ref (rO 12), .int (oO 13), .int (oO 14), .int (oO 15), .int (oO 16), .int (oO 17), .int (oO 18), .ref (rO 19), .ref (rO 20), .ref (rO 21), .ref (rO 22), .int (oO 23), .int (oO 24), .int (oO 25), .ref (rO 26), .int (oO 27), .int (oO 28), .int (oO 29), .int (oO 30), .int (oO 31), .int (oO 32), .int (oO 33), .int (oO 34), .int (oO 35), .int (oO 36), .int (oO 37), .ref (rO 38), .ref (rO 39), .ref (rO 40), .int (oO 41), .int (oO 42), .int (oO 43), .ref (rO 44), .int (oO 45)])), ((rO 0), .inl (cI, 7, .inl (aO 0))), ((rO 1), .inl (cI, 8, .inl (aO 1))), ((rO 2), .inl (cI, 8, .inl (aO 2))), ((rO 3), .inl (cI, 8, .inl (aO 3))), ((rO 4), .inl (cI, 8, .inl (aO 4))), ((rO 5), .inl (cI, 4, .inl (aO 5))), ((rO 6), .inl (cI, 4, .inl (aO 6))), ((rO 7), .inl (cI, 4, .inl (aO 7))), ((rO 8), .inl (cI, 4, .inl (aO 8))), ((rO 9), .inl (cI, 4, .inl (aO 9))), ((rO 10), .inl (cI, 4, .inl (aO 10))), ((rO 11), .inl (cI, 4, .inl (aO 11))), ((rO 12), .inl (cI, 4, .inl (aO 12))), ((rO 19), .inl (cI, 96, .inl (aO 19))), ((rO 20), .inl (cI, 48, .inl (aO 20))), ((rO 21), .inl (cI, 48, .inl (aO 21))), ((rO 22), .inl (cI, 192, .inl (aO 22))), ((rO 26), .inl (cI, 160, .inl (aO 26))), ((rO 38), .inl (cI, 54, .inl (aO 38))), ((rO 39), .inl (cI, 9, .inl (aO 39))), ((rO 40), .inl (cI, 9, .inl (aO 40))), ((rO 44), .inl (cI, 12, .inl (aO 44)))] [(adO, .inr (7, [.ref (rO 0), .ref (rO 1), .ref (rO 2), .ref (rO 3), .ref (rO 4), .ref (rO 5), .ref (rO 6), .ref (rO 7), .ref (rO 8), .ref (rO 9), .ref (rO 10), .ref (rO 11), .ref (rO 12), .int (oO 13), .int (oO 14), .int (oO 15), .int (oO 16), .int (oO 17), .int (oO 18), .ref (rO 19), .ref (rO 20), .ref (rO 21), .ref (rO 22), .int (oO 23), .int (oO 24), .int (oO 25), .ref (rO 26), .int (oO 27), .int (oO 28), .int (oO 29), .int (oO 30), .int (oO 31), .int (oO 32), .int (oO 33), .int (oO 34), .int (oO 35), .int (oO 36), .int (oO 37), .ref (rO 38), .ref (rO 39), .ref (rO 40), .int (oO 41), .int (oO 42), .int (oO 43), .ref (rO 44), .int (oO 45)])), ((rO 0), .inl (cI, 7, .inl (aO 0))), ((rO 1), .inl (cI, 8, .inl (aO 1))), ((rO 2), .inl (cI, 8, .inl (aO 2))), ((rO 3), .inl (cI, 8, .inl (aO 3))), ((rO 4), .inl (cI, 8, .inl (aO 4))), ((rO 5), .inl (cI, 4, .inl (aO 5))), ((rO 6), .inl (cI, 4, .inl (aO 6))), ((rO 7), .inl (cI, 4, .inl (aO 7))), ((rO 8), .inl (cI, 4, .inl (aO 8))), ((rO 9), .inl (cI, 4, .inl (aO 9))), ((rO 10), .inl (cI, 4, .inl (aO 10))), ((rO 11), .inl (cI, 4, .inl (aO 11))), ((rO 12), .inl (cI, 4, .inl (aO 12))), ((rO 19), .inl (cI, 96, .inl (aO 19))), ((rO 20), .inl (cI, 48, .inl (aO 20))), ((rO 21), .inl (cI, 48, .inl (aO 21))), ((rO 22), .inl (cI, 192, .inl (aO 22))), ((rO 26), .inl (cI, 160, .inl (aO 26))), ((rO 38), .inl (cI, 54, .inl (aO 38))), ((rO 39), .inl (cI, 9, .inl (aO 39))), ((rO 40), .inl (cI, 9, .inl (aO 40))), ((rO 44), .inl (cI, 12, .inl (aO 44)))] (F_X7_isLooker oO aO p0) := by
  intro sz
  refine x_in (cc := cX7_isLooker) (maxL := 2) (ret := (some .boolean)) (by decide) rfl (Nat.le_of_ble_eq_true rfl) (fun p e s m below meth c A ls hfix hr hlocks hN hK hP hAe hD hA hS hl => ?_)
  obtain ⟨hx, hb, hml, hown, hts⟩ := hfix
  rw [← hAe]
  clear hAe
  have hown : s.vm.findClass RX7 = some m.cls := hown
  have htL : ∀ w ∈ wsL_law, w.before ([.ref adO, .int p0] : List Value).toArray s = true := fun w h => hts w (List.mem_cons_of_mem _ h)
  have hl : lv_has ls 2 [(0, .ref adO), (1, .int p0)] := hl
  refine lv_iload_n hx hb dX7_isLooker_0 rfl (lv_at hl 1 rfl) ?_
  refine lv_if_lt (tgt := 16) hx hb dX7_isLooker_1 (by decide) (fun c_1 => ?_) (fun c_1 => ?_)
  · refine lv_iconst (v := 0) hx hb dX7_isLooker_16 (by decide) ?_
    have hF1 : F_X7_isLooker oO aO p0 = 0 := (eX7_isLooker_1 oO aO p0 c_1)
    exact xz_ret hx hb hr hlocks hP hS rfl (congrArg (fun o : Int32 => o) hF1).symm dX7_isLooker_17 rfl
  · refine lv_iload_n hx hb dX7_isLooker_4 rfl (lv_at hl 1 rfl) ?_
    refine lv_aload_n hx hb dX7_isLooker_5 rfl (lv_at hl 0 rfl) ?_
    refine va_get (D := D) (ci := 7) (v := .int (oO 14)) (C := RX7) (T := TX7) (N := 46) hx hb hts (fun _ h => w_in (inlX7 _ h)) hown hK hP 0 rfl rfl 14 (by decide) (htL _ wd_283) (fun _ h9 => h9) rfl dX7_isLooker_6 ?_
    refine lv_icmp_ge (tgt := 16) hx hb dX7_isLooker_9 (by decide) (fun c_2 => ?_) (fun c_2 => ?_)
    · refine lv_iconst (v := 0) hx hb dX7_isLooker_16 (by decide) ?_
      have hF1 : F_X7_isLooker oO aO p0 = 0 := (eX7_isLooker_2 oO aO p0 c_1 c_2)
      exact xz_ret hx hb hr hlocks hP hS rfl (congrArg (fun o : Int32 => o) hF1).symm dX7_isLooker_17 rfl
    · refine lv_iconst (v := 1) hx hb dX7_isLooker_12 (by decide) ?_
      refine lv_goto (tgt := 17) hx hb dX7_isLooker_13 (by decide) ?_
      have hF1 : F_X7_isLooker oO aO p0 = 1 := (eX7_isLooker_3 oO aO p0 c_1 c_2)
      exact xz_ret hx hb hr hlocks hP hS rfl (congrArg (fun o : Int32 => o) hF1).symm dX7_isLooker_17 rfl
theorem sem_X7_isLooker_n {r p : Int32} {o : Nat → Int32} {a : Nat → Nat → Int32} (e : r = F_X7_isLooker o a p) (h : ¬ r = 0) : 0 ≤ p.toInt ∧ p.toInt < (o 14).toInt := by
  subst e
  unfold F_X7_isLooker at h
  split at h
  · exact absurd rfl h
  · split at h
    · exact absurd rfl h
    · rename_i h1 h2
      exact ⟨i_nlt h1, i_nle h2⟩

noncomputable def F_X7_areTwo (oO : Nat → Int32) (aO : Nat → Nat → Int32) (p0 : Int32) (p1 : Int32) : Int32 :=
  let r_1 : Int32 := (F_X7_isLooker oO aO p0)
  if r_1 = 0 then
  (0)
  else
  (let r_3 : Int32 := (F_X7_isLooker oO aO p1)
  if r_3 = 0 then
  (0)
  else
  (if p0 = p1 then
  (0)
  else
  (1)))
theorem nz_X7_areTwo (oO : Nat → Int32) (aO : Nat → Nat → Int32) (p0 : Int32) (p1 : Int32) : narrow .boolean (.int (F_X7_areTwo oO aO p0 p1)) = .int (F_X7_areTwo oO aO p0 p1) := by
  unfold F_X7_areTwo
  try dsimp only
  (repeat' split) <;> rfl
set_option maxRecDepth 100000 in
theorem eX7_areTwo_1 (oO : Nat → Int32) (aO : Nat → Nat → Int32) (p0 : Int32) (p1 : Int32) (r_1 : Int32) (er_1 : r_1 = (F_X7_isLooker oO aO p0)) (c_2 : r_1 = 0) : F_X7_areTwo oO aO p0 p1 = 0 := by subst er_1; exact (if_pos c_2).trans (rfl)
set_option maxRecDepth 100000 in
theorem eX7_areTwo_2 (oO : Nat → Int32) (aO : Nat → Nat → Int32) (p0 : Int32) (p1 : Int32) (r_1 : Int32) (r_3 : Int32) (er_1 : r_1 = (F_X7_isLooker oO aO p0)) (er_3 : r_3 = (F_X7_isLooker oO aO p1)) (c_2 : ¬ (r_1 = 0)) (c_4 : r_3 = 0) : F_X7_areTwo oO aO p0 p1 = 0 := by subst er_1 er_3; exact (if_neg c_2).trans ((if_pos c_4).trans (rfl))
set_option maxRecDepth 100000 in
theorem eX7_areTwo_3 (oO : Nat → Int32) (aO : Nat → Nat → Int32) (p0 : Int32) (p1 : Int32) (r_1 : Int32) (r_3 : Int32) (er_1 : r_1 = (F_X7_isLooker oO aO p0)) (er_3 : r_3 = (F_X7_isLooker oO aO p1)) (c_2 : ¬ (r_1 = 0)) (c_4 : ¬ (r_3 = 0)) (c_5 : p0 = p1) : F_X7_areTwo oO aO p0 p1 = 0 := by subst er_1 er_3; exact (if_neg c_2).trans ((if_neg c_4).trans ((if_pos c_5).trans (rfl)))
set_option maxRecDepth 100000 in
theorem eX7_areTwo_4 (oO : Nat → Int32) (aO : Nat → Nat → Int32) (p0 : Int32) (p1 : Int32) (r_1 : Int32) (r_3 : Int32) (er_1 : r_1 = (F_X7_isLooker oO aO p0)) (er_3 : r_3 = (F_X7_isLooker oO aO p1)) (c_2 : ¬ (r_1 = 0)) (c_4 : ¬ (r_3 = 0)) (c_5 : ¬ (p0 = p1)) : F_X7_areTwo oO aO p0 p1 = 1 := by subst er_1 er_3; exact (if_neg c_2).trans ((if_neg c_4).trans ((if_neg c_5).trans (rfl)))
set_option maxHeartbeats 4000000 in
set_option maxRecDepth 100000 in
theorem c_X7_areTwo (l : Launch) (D : va_G) (cI cL : ClassId)   (adO : Nat) (rO : Nat → Nat) (oO : Nat → Int32) (aO : Nat → Nat → Int32) (p0 : Int32) (p1 : Int32)  : Xi l yX7_areTwo (wm yX7_areTwo cX7_areTwo 3 (some .boolean)) (xR (1) (21)) D (tyA cI cL) [.ref adO, .int p0, .int p1] [(adO, .inr (7, [.ref (rO 0), .ref (rO 1), .ref (rO 2), .ref (rO 3), .ref (rO 4), .ref (rO 5), .ref (rO 6), .ref (rO 7), .ref (rO 8), .ref (rO 9), .ref (rO 10), .ref (rO 11), .ref (rO 12), .int (oO 13), .int (oO 14), .int (oO 15), .int (oO 16), .int (oO 17), .int (oO 18), .ref (rO 19), .ref (rO 20), .ref (rO 21), .ref (rO 22), .int (oO 23), .int (oO 24), .int (oO 25), .ref (rO 26), .int (oO 27), .int (oO 28), .int (oO 29), .int (oO 30), .int (oO 31), .int (oO 32), .int (oO 33), .int (oO 34), .int (oO 35), .int (oO 36), .int (oO 37), .ref (rO 38), .ref (rO 39), .ref (rO 40), .int (oO 41), .int (oO 42), .int (oO 43), .ref (rO 44), .int (oO 45)])), ((rO 0), .inl (cI, 7, .inl (aO 0))), ((rO 1), .inl (cI, 8, .inl (aO 1))), ((rO 2), .inl (cI, 8, .inl (aO 2))), ((rO 3), .inl (cI, 8, .inl (aO 3))), ((rO 4), .inl (cI, 8, .inl (aO 4))), ((rO 5), .inl (cI, 4, .inl (aO 5))), ((rO 6), .inl (cI, 4, .inl (aO 6))), ((rO 7), .inl (cI, 4, .inl (aO 7))), ((rO 8), .inl (cI, 4, .inl (aO 8))), ((rO 9), .inl (cI, 4, .inl (aO 9))), ((rO 10), .inl (cI, 4, .inl (aO 10))), ((rO 11), .inl (cI, 4, .inl (aO 11))), ((rO 12), .inl (cI, 4, .inl (aO 12))), ((rO 19), .inl (cI, 96, .inl (aO 19))), ((rO 20), .inl (cI, 48, .inl (aO 20))), ((rO 21), .inl (cI, 48, .inl (aO 21))), ((rO 22), .inl (cI, 192, .inl (aO 22))), ((rO 26), .inl (cI, 160, .inl (aO 26))), ((rO 38), .inl (cI, 54, .inl (aO 38))), ((rO 39), .inl (cI, 9, .inl (aO 39))), ((rO 40), .inl (cI, 9, .inl (aO 40))), ((rO 44), .inl (cI, 12, .inl (aO 44)))] [(adO, .inr (7, [.ref (rO 0), .ref (rO 1), .ref (rO 2), .ref (rO 3), .ref (rO 4), .ref (rO 5), .ref (rO 6), .ref (rO 7), .ref (rO 8), .ref (rO 9), .ref (rO 10), .ref (rO 11), .ref (rO 12), .int (oO 13), .int (oO 14), .int (oO 15), .int (oO 16), .int (oO 17), .int (oO 18), .ref (rO 19), .ref (rO 20), .ref (rO 21), .ref (rO 22), .int (oO 23), .int (oO 24), .int (oO 25), .ref (rO 26), .int (oO 27), .int (oO 28), .int (oO 29), .int (oO 30), .int (oO 31), .int (oO 32), .int (oO 33), .int (oO 34), .int (oO 35), .int (oO 36), .int (oO 37), .ref (rO 38), .ref (rO 39), .ref (rO 40), .int (oO 41), .int (oO 42), .int (oO 43), .ref (rO 44), .int (oO 45)])), ((rO 0), .inl (cI, 7, .inl (aO 0))), ((rO 1), .inl (cI, 8, .inl (aO 1))), ((rO 2), .inl (cI, 8, .inl (aO 2))), ((rO 3), .inl (cI, 8, .inl (aO 3))), ((rO 4), .inl (cI, 8, .inl (aO 4))), ((rO 5), .inl (cI, 4, .inl (aO 5))), ((rO 6), .inl (cI, 4, .inl (aO 6))), ((rO 7), .inl (cI, 4, .inl (aO 7))), ((rO 8), .inl (cI, 4, .inl (aO 8))), ((rO 9), .inl (cI, 4, .inl (aO 9))), ((rO 10), .inl (cI, 4, .inl (aO 10))), ((rO 11), .inl (cI, 4, .inl (aO 11))), ((rO 12), .inl (cI, 4, .inl (aO 12))), ((rO 19), .inl (cI, 96, .inl (aO 19))), ((rO 20), .inl (cI, 48, .inl (aO 20))), ((rO 21), .inl (cI, 48, .inl (aO 21))), ((rO 22), .inl (cI, 192, .inl (aO 22))), ((rO 26), .inl (cI, 160, .inl (aO 26))), ((rO 38), .inl (cI, 54, .inl (aO 38))), ((rO 39), .inl (cI, 9, .inl (aO 39))), ((rO 40), .inl (cI, 9, .inl (aO 40))), ((rO 44), .inl (cI, 12, .inl (aO 44)))] (F_X7_areTwo oO aO p0 p1) := by
  intro sz
  refine x_in (cc := cX7_areTwo) (maxL := 3) (ret := (some .boolean)) (by decide) rfl (Nat.le_of_ble_eq_true rfl) (fun p e s m below meth c A ls hfix hr hlocks hN hK hP hAe hD hA hS hl => ?_)
  obtain ⟨hx, hb, hml, hown, hts⟩ := hfix
  rw [← hAe]
  clear hAe
  have hown : s.vm.findClass RX7 = some m.cls := hown
  have htL : ∀ w ∈ wsL_law, w.before ([.ref adO, .int p0, .int p1] : List Value).toArray s = true := fun w h => hts w (List.mem_cons_of_mem _ h)
  have hl : lv_has ls 3 [(0, .ref adO), (1, .int p0), (2, .int p1)] := hl
  refine lv_aload_n hx hb dX7_areTwo_0 rfl (lv_at hl 0 rfl) ?_
  refine lv_iload_n hx hb dX7_areTwo_1 rfl (lv_at hl 1 rfl) ?_
  refine x_ci [0, 1, 2, 3, 4, 5, 6, 7, 8, 9, 10, 11, 12, 13, 14, 15, 16, 17, 18, 19, 20, 21, 22] (va_runV (As := [.int p0]) (rest := []) ⟨hx, hb, hml, hown, hts⟩ (c_X7_isLooker l D cI cL adO rO oO aO p0 _) (cwV 1 hts (gv_ok (fun _ h => w_in h) wd_407 wd_404 wd_405 wd_406 wd_5) rfl rfl rfl (by decide +kernel) ⟨Nat.le_of_ble_eq_true rfl, Nat.le_of_ble_eq_true rfl⟩) (x_pv hN hK hP hD [0, 1, 2, 3, 4, 5, 6, 7, 8, 9, 10, 11, 12, 13, 14, 15, 16, 17, 18, 19, 20, 21, 22] rfl rfl (ci := 7) (q0 := 0) rfl rfl) rfl rfl hl.1 rfl (lv_room (Nat.le_of_ble_eq_true rfl)) dX7_areTwo_2 ⟨Nat.zero_le _, Nat.zero_le _⟩) hP hD hS hA rfl (fun r_1 H locs er_1 hP hS => ?_)
  refine lv_if_eq (tgt := 25) hx hb dX7_areTwo_5 (by decide) (fun c_2 => ?_) (fun c_2 => ?_)
  · refine lv_iconst (v := 0) hx hb dX7_areTwo_25 (by decide) ?_
    have hF1 : F_X7_areTwo oO aO p0 p1 = 0 := (eX7_areTwo_1 oO aO p0 p1 r_1 er_1 c_2)
    exact xz_ret hx hb hr hlocks hP hS rfl (congrArg (fun o : Int32 => o) hF1).symm dX7_areTwo_26 rfl
  · refine lv_aload_n hx hb dX7_areTwo_8 rfl (lv_at hl 0 rfl) ?_
    refine lv_iload_n hx hb dX7_areTwo_9 rfl (lv_at hl 2 rfl) ?_
    refine x_ci [0, 1, 2, 3, 4, 5, 6, 7, 8, 9, 10, 11, 12, 13, 14, 15, 16, 17, 18, 19, 20, 21, 22] (va_runV (As := [.int p1]) (rest := []) ⟨hx, hb, hml, hown, hts⟩ (c_X7_isLooker l D cI cL adO rO oO aO p1 _) (cwV 1 hts (gv_ok (fun _ h => w_in h) wd_407 wd_404 wd_405 wd_406 wd_5) rfl rfl rfl (by decide +kernel) ⟨Nat.le_of_ble_eq_true rfl, Nat.le_of_ble_eq_true rfl⟩) (x_pv hN hK hP hD [0, 1, 2, 3, 4, 5, 6, 7, 8, 9, 10, 11, 12, 13, 14, 15, 16, 17, 18, 19, 20, 21, 22] rfl rfl (ci := 7) (q0 := 0) rfl rfl) rfl rfl hl.1 rfl (lv_room (Nat.le_of_ble_eq_true rfl)) dX7_areTwo_10 ⟨Nat.zero_le _, Nat.zero_le _⟩) hP hD hS hA rfl (fun r_3 H locs er_3 hP hS => ?_)
    refine lv_if_eq (tgt := 25) hx hb dX7_areTwo_13 (by decide) (fun c_4 => ?_) (fun c_4 => ?_)
    · refine lv_iconst (v := 0) hx hb dX7_areTwo_25 (by decide) ?_
      have hF1 : F_X7_areTwo oO aO p0 p1 = 0 := (eX7_areTwo_2 oO aO p0 p1 r_1 r_3 er_1 er_3 c_2 c_4)
      exact xz_ret hx hb hr hlocks hP hS rfl (congrArg (fun o : Int32 => o) hF1).symm dX7_areTwo_26 rfl
    · refine lv_iload_n hx hb dX7_areTwo_16 rfl (lv_at hl 1 rfl) ?_
      refine lv_iload_n hx hb dX7_areTwo_17 rfl (lv_at hl 2 rfl) ?_
      refine lv_icmp_eq (tgt := 25) hx hb dX7_areTwo_18 (by decide) (fun c_5 => ?_) (fun c_5 => ?_)
      · refine lv_iconst (v := 0) hx hb dX7_areTwo_25 (by decide) ?_
        have hF1 : F_X7_areTwo oO aO p0 p1 = 0 := (eX7_areTwo_3 oO aO p0 p1 r_1 r_3 er_1 er_3 c_2 c_4 c_5)
        exact xz_ret hx hb hr hlocks hP hS rfl (congrArg (fun o : Int32 => o) hF1).symm dX7_areTwo_26 rfl
      · refine lv_iconst (v := 1) hx hb dX7_areTwo_21 (by decide) ?_
        refine lv_goto (tgt := 26) hx hb dX7_areTwo_22 (by decide) ?_
        have hF1 : F_X7_areTwo oO aO p0 p1 = 1 := (eX7_areTwo_4 oO aO p0 p1 r_1 r_3 er_1 er_3 c_2 c_4 c_5)
        exact xz_ret hx hb hr hlocks hP hS rfl (congrArg (fun o : Int32 => o) hF1).symm dX7_areTwo_26 rfl
theorem sem_X7_areTwo_n {r p p1 : Int32} {o : Nat → Int32} {a : Nat → Nat → Int32} (e : r = F_X7_areTwo o a p p1) (h : ¬ r = 0) : (0 ≤ p.toInt ∧ p.toInt < (o 14).toInt) ∧ (0 ≤ p1.toInt ∧ p1.toInt < (o 14).toInt) := by
  subst e
  unfold F_X7_areTwo at h
  dsimp only at h
  split at h
  · exact absurd rfl h
  · rename_i h1
    split at h
    · exact absurd rfl h
    · rename_i h2
      exact ⟨sem_X7_isLooker_n rfl h1, sem_X7_isLooker_n rfl h2⟩

noncomputable def F_X7_feed (oO : Nat → Int32) (aO : Nat → Nat → Int32) (p0 : Int32) : Int32 × Int32 × (Nat → Int32) × (Nat → Int32) :=
  let r_1 : Int32 := (F_X7_bound p0 0 255)
  if r_1 = 0 then
  (if (oO 23) = 96 then
  (let o_12 : Int32 × (Nat → Int32) := (F_X7_no oO aO (-6))
  let r_13 : Int32 := o_12.1
  (r_13, (oO 23), o_12.2, (aO 19)))
  else
  (if r_1 = 0 then
  (let x_9 : Int32 := ((oO 23) + 1)
  (x_9, x_9, (aO 0), (upd (aO 19) (oO 23).toNatClampNeg p0)))
  else
  (let o_10 : Int32 × (Nat → Int32) := (F_X7_no oO aO r_1)
  let r_11 : Int32 := o_10.1
  (r_11, (oO 23), o_10.2, (aO 19)))))
  else
  (if r_1 = 0 then
  (let x_4 : Int32 := ((oO 23) + 1)
  (x_4, x_4, (aO 0), (upd (aO 19) (oO 23).toNatClampNeg p0)))
  else
  (let o_5 : Int32 × (Nat → Int32) := (F_X7_no oO aO r_1)
  let r_6 : Int32 := o_5.1
  (r_6, (oO 23), o_5.2, (aO 19))))
set_option maxRecDepth 100000 in
theorem eX7_feed_1 (oO : Nat → Int32) (aO : Nat → Nat → Int32) (p0 : Int32) (r_1 : Int32) (x_4 : Int32) (er_1 : r_1 = (F_X7_bound p0 0 255)) (ex_4 : x_4 = ((oO 23) + 1)) (c_2 : ¬ (r_1 = 0)) (c_3 : r_1 = 0) : F_X7_feed oO aO p0 = (x_4, x_4, (aO 0), (upd (aO 19) (oO 23).toNatClampNeg p0)) := by subst er_1 ex_4; exact (if_neg c_2).trans ((if_pos c_3).trans (rfl))
set_option maxRecDepth 100000 in
theorem eX7_feed_2 (oO : Nat → Int32) (aO : Nat → Nat → Int32) (p0 : Int32) (r_1 : Int32) (o_5 : Int32 × (Nat → Int32)) (r_6 : Int32) (er_1 : r_1 = (F_X7_bound p0 0 255)) (er_6 : r_6 = o_5.1) (eo_5 : o_5 = (F_X7_no oO aO r_1)) (c_2 : ¬ (r_1 = 0)) (c_3 : ¬ (r_1 = 0)) : F_X7_feed oO aO p0 = (r_6, (oO 23), o_5.2, (aO 19)) := by subst er_1 er_6 eo_5; exact (if_neg c_2).trans ((if_neg c_3).trans (rfl))
set_option maxRecDepth 100000 in
theorem eX7_feed_3 (oO : Nat → Int32) (aO : Nat → Nat → Int32) (p0 : Int32) (r_1 : Int32) (x_9 : Int32) (er_1 : r_1 = (F_X7_bound p0 0 255)) (ex_9 : x_9 = ((oO 23) + 1)) (c_2 : r_1 = 0) (c_7 : ¬ ((oO 23) = 96)) (c_8 : r_1 = 0) : F_X7_feed oO aO p0 = (x_9, x_9, (aO 0), (upd (aO 19) (oO 23).toNatClampNeg p0)) := by subst er_1 ex_9; exact (if_pos c_2).trans ((if_neg c_7).trans ((if_pos c_8).trans (rfl)))
set_option maxRecDepth 100000 in
theorem eX7_feed_4 (oO : Nat → Int32) (aO : Nat → Nat → Int32) (p0 : Int32) (r_1 : Int32) (o_10 : Int32 × (Nat → Int32)) (r_11 : Int32) (er_1 : r_1 = (F_X7_bound p0 0 255)) (er_11 : r_11 = o_10.1) (eo_10 : o_10 = (F_X7_no oO aO r_1)) (c_2 : r_1 = 0) (c_7 : ¬ ((oO 23) = 96)) (c_8 : ¬ (r_1 = 0)) : F_X7_feed oO aO p0 = (r_11, (oO 23), o_10.2, (aO 19)) := by subst er_1 er_11 eo_10; exact (if_pos c_2).trans ((if_neg c_7).trans ((if_neg c_8).trans (rfl)))
set_option maxRecDepth 100000 in
theorem eX7_feed_5 (oO : Nat → Int32) (aO : Nat → Nat → Int32) (p0 : Int32) (r_1 : Int32) (o_12 : Int32 × (Nat → Int32)) (r_13 : Int32) (er_1 : r_1 = (F_X7_bound p0 0 255)) (er_13 : r_13 = o_12.1) (eo_12 : o_12 = (F_X7_no oO aO (-6))) (c_2 : r_1 = 0) (c_7 : (oO 23) = 96) : F_X7_feed oO aO p0 = (r_13, (oO 23), o_12.2, (aO 19)) := by subst er_1 er_13 eo_12; exact (if_pos c_2).trans ((if_pos c_7).trans (rfl))
set_option maxHeartbeats 4000000 in
set_option maxRecDepth 100000 in
theorem c_X7_feed (l : Launch) (D : va_G) (cI cL : ClassId)   (adO : Nat) (rO : Nat → Nat) (oO : Nat → Int32) (aO : Nat → Nat → Int32) (p0 : Int32) (hTp : 0 ≤ (oO 23).toInt ∧ (oO 23).toInt ≤ 96) : Xi l yX7_feed (wm yX7_feed cX7_feed 3 (some .int)) (xR (1) (22)) D (tyA cI cL) [.ref adO, .int p0] [(adO, .inr (7, [.ref (rO 0), .ref (rO 1), .ref (rO 2), .ref (rO 3), .ref (rO 4), .ref (rO 5), .ref (rO 6), .ref (rO 7), .ref (rO 8), .ref (rO 9), .ref (rO 10), .ref (rO 11), .ref (rO 12), .int (oO 13), .int (oO 14), .int (oO 15), .int (oO 16), .int (oO 17), .int (oO 18), .ref (rO 19), .ref (rO 20), .ref (rO 21), .ref (rO 22), .int (oO 23), .int (oO 24), .int (oO 25), .ref (rO 26), .int (oO 27), .int (oO 28), .int (oO 29), .int (oO 30), .int (oO 31), .int (oO 32), .int (oO 33), .int (oO 34), .int (oO 35), .int (oO 36), .int (oO 37), .ref (rO 38), .ref (rO 39), .ref (rO 40), .int (oO 41), .int (oO 42), .int (oO 43), .ref (rO 44), .int (oO 45)])), ((rO 0), .inl (cI, 7, .inl (aO 0))), ((rO 1), .inl (cI, 8, .inl (aO 1))), ((rO 2), .inl (cI, 8, .inl (aO 2))), ((rO 3), .inl (cI, 8, .inl (aO 3))), ((rO 4), .inl (cI, 8, .inl (aO 4))), ((rO 5), .inl (cI, 4, .inl (aO 5))), ((rO 6), .inl (cI, 4, .inl (aO 6))), ((rO 7), .inl (cI, 4, .inl (aO 7))), ((rO 8), .inl (cI, 4, .inl (aO 8))), ((rO 9), .inl (cI, 4, .inl (aO 9))), ((rO 10), .inl (cI, 4, .inl (aO 10))), ((rO 11), .inl (cI, 4, .inl (aO 11))), ((rO 12), .inl (cI, 4, .inl (aO 12))), ((rO 19), .inl (cI, 96, .inl (aO 19))), ((rO 20), .inl (cI, 48, .inl (aO 20))), ((rO 21), .inl (cI, 48, .inl (aO 21))), ((rO 22), .inl (cI, 192, .inl (aO 22))), ((rO 26), .inl (cI, 160, .inl (aO 26))), ((rO 38), .inl (cI, 54, .inl (aO 38))), ((rO 39), .inl (cI, 9, .inl (aO 39))), ((rO 40), .inl (cI, 9, .inl (aO 40))), ((rO 44), .inl (cI, 12, .inl (aO 44)))] [(adO, .inr (7, [.ref (rO 0), .ref (rO 1), .ref (rO 2), .ref (rO 3), .ref (rO 4), .ref (rO 5), .ref (rO 6), .ref (rO 7), .ref (rO 8), .ref (rO 9), .ref (rO 10), .ref (rO 11), .ref (rO 12), .int (oO 13), .int (oO 14), .int (oO 15), .int (oO 16), .int (oO 17), .int (oO 18), .ref (rO 19), .ref (rO 20), .ref (rO 21), .ref (rO 22), .int (F_X7_feed oO aO p0).2.1, .int (oO 24), .int (oO 25), .ref (rO 26), .int (oO 27), .int (oO 28), .int (oO 29), .int (oO 30), .int (oO 31), .int (oO 32), .int (oO 33), .int (oO 34), .int (oO 35), .int (oO 36), .int (oO 37), .ref (rO 38), .ref (rO 39), .ref (rO 40), .int (oO 41), .int (oO 42), .int (oO 43), .ref (rO 44), .int (oO 45)])), ((rO 0), .inl (cI, 7, .inl (F_X7_feed oO aO p0).2.2.1)), ((rO 1), .inl (cI, 8, .inl (aO 1))), ((rO 2), .inl (cI, 8, .inl (aO 2))), ((rO 3), .inl (cI, 8, .inl (aO 3))), ((rO 4), .inl (cI, 8, .inl (aO 4))), ((rO 5), .inl (cI, 4, .inl (aO 5))), ((rO 6), .inl (cI, 4, .inl (aO 6))), ((rO 7), .inl (cI, 4, .inl (aO 7))), ((rO 8), .inl (cI, 4, .inl (aO 8))), ((rO 9), .inl (cI, 4, .inl (aO 9))), ((rO 10), .inl (cI, 4, .inl (aO 10))), ((rO 11), .inl (cI, 4, .inl (aO 11))), ((rO 12), .inl (cI, 4, .inl (aO 12))), ((rO 19), .inl (cI, 96, .inl (F_X7_feed oO aO p0).2.2.2)), ((rO 20), .inl (cI, 48, .inl (aO 20))), ((rO 21), .inl (cI, 48, .inl (aO 21))), ((rO 22), .inl (cI, 192, .inl (aO 22))), ((rO 26), .inl (cI, 160, .inl (aO 26))), ((rO 38), .inl (cI, 54, .inl (aO 38))), ((rO 39), .inl (cI, 9, .inl (aO 39))), ((rO 40), .inl (cI, 9, .inl (aO 40))), ((rO 44), .inl (cI, 12, .inl (aO 44)))] (F_X7_feed oO aO p0).1 := by
  intro sz
  refine x_in (cc := cX7_feed) (maxL := 3) (ret := (some .int)) (by decide) rfl (Nat.le_of_ble_eq_true rfl) (fun p e s m below meth c A ls hfix hr hlocks hN hK hP hAe hD hA hS hl => ?_)
  obtain ⟨hx, hb, hml, hown, hts⟩ := hfix
  rw [← hAe]
  clear hAe
  have hown : s.vm.findClass RX7 = some m.cls := hown
  have htL : ∀ w ∈ wsL_law, w.before ([.ref adO, .int p0] : List Value).toArray s = true := fun w h => hts w (List.mem_cons_of_mem _ h)
  have hl : lv_has ls 3 [(0, .ref adO), (1, .int p0)] := hl
  refine lv_iload_n hx hb dX7_feed_0 rfl (lv_at hl 1 rfl) ?_
  refine lv_iconst (v := 0) hx hb dX7_feed_1 (by decide) ?_
  refine lv_sipush (v := 255) hx hb dX7_feed_2 (by decide) ?_
  refine x_ci [] (va_runS (As := [.int p0, .int 0, .int 255]) (rest := []) ⟨hx, hb, hml, hown, hts⟩ (c_X7_bound l D cI cL p0 0 255 _) (va_cwS 3 hts (gs_ok (fun _ h => w_in h) wd_159 wd_157 wd_158 wd_5) rfl rfl rfl (by decide +kernel) ⟨Nat.le_of_ble_eq_true rfl, Nat.le_of_ble_eq_true rfl⟩) (x_ps hN hK hP hD [] rfl rfl) rfl rfl hl.1 rfl (lv_room (Nat.le_of_ble_eq_true rfl)) dX7_feed_5 ⟨Nat.zero_le _, Nat.zero_le _⟩) hP hD hS hA rfl (fun r_1 H locs er_1 hP hS => ?_)
  refine lv_istore_n (lv' := [(2, .int r_1), (0, .ref adO), (1, .int p0)]) hx hb dX7_feed_8 rfl hl (by decide) rfl (fun ls hl => ?_)
  refine lv_iload_n hx hb dX7_feed_9 rfl (lv_at hl 0 rfl) ?_
  refine lv_if_ne (tgt := 25) hx hb dX7_feed_10 (by decide) (fun c_2 => ?_) (fun c_2 => ?_)
  · refine lv_iload_n hx hb dX7_feed_25 rfl (lv_at hl 0 rfl) ?_
    refine lv_if_eq (tgt := 35) hx hb dX7_feed_26 (by decide) (fun c_3 => ?_) (fun c_3 => ?_)
    · refine lv_aload_n hx hb dX7_feed_35 rfl (lv_at hl 1 rfl) ?_
      refine va_get (D := D) (ci := 7) (v := .ref (rO 19)) (C := RX7) (T := TX7) (N := 46) hx hb hts (fun _ h => w_in (inlX7 _ h)) hown hK hP 0 rfl rfl 19 (by decide) (htL _ wd_119) (fun _ h9 => h9) rfl dX7_feed_36 ?_
      refine lv_aload_n hx hb dX7_feed_39 rfl (lv_at hl 1 rfl) ?_
      refine va_get (D := D) (ci := 7) (v := .int (oO 23)) (C := RX7) (T := TX7) (N := 46) hx hb hts (fun _ h => w_in (inlX7 _ h)) hown hK hP 0 rfl rfl 23 (by decide) (htL _ wd_156) (fun _ h9 => h9) rfl dX7_feed_40 ?_
      refine lv_iload_n hx hb dX7_feed_43 rfl (lv_at hl 2 rfl) ?_
      refine va_iast hx hb hK hP hD hS 14 0 rfl rfl (vp_in_iff.mpr (by have l0 : (0 : Int32).toInt = 0 := rfl; have l1 : (1 : Int32).toInt = 1 := rfl; have l255 : (255 : Int32).toInt = 255 := rfl; have qc_2 := x_ne c_2; have qsc_2 : r_1.toInt = -4 ∨ r_1.toInt = -6 := (by have h9 := sem_X7_bound_n er_1 c_2; exact h9); have qc_3 := i_eq c_3; have qsc_3 : (0 : Int32).toInt ≤ p0.toInt ∧ p0.toInt ≤ (255 : Int32).toInt := (by have h9 := sem_X7_bound_z er_1 c_3; exact h9); omega)) dX7_feed_44 (fun H locs hP hD hS => ?_)
      have hP : va_P D vwCl [(adO, .inr (7, [.ref (rO 0), .ref (rO 1), .ref (rO 2), .ref (rO 3), .ref (rO 4), .ref (rO 5), .ref (rO 6), .ref (rO 7), .ref (rO 8), .ref (rO 9), .ref (rO 10), .ref (rO 11), .ref (rO 12), .int (oO 13), .int (oO 14), .int (oO 15), .int (oO 16), .int (oO 17), .int (oO 18), .ref (rO 19), .ref (rO 20), .ref (rO 21), .ref (rO 22), .int (oO 23), .int (oO 24), .int (oO 25), .ref (rO 26), .int (oO 27), .int (oO 28), .int (oO 29), .int (oO 30), .int (oO 31), .int (oO 32), .int (oO 33), .int (oO 34), .int (oO 35), .int (oO 36), .int (oO 37), .ref (rO 38), .ref (rO 39), .ref (rO 40), .int (oO 41), .int (oO 42), .int (oO 43), .ref (rO 44), .int (oO 45)])), ((rO 0), .inl (cI, 7, .inl (aO 0))), ((rO 1), .inl (cI, 8, .inl (aO 1))), ((rO 2), .inl (cI, 8, .inl (aO 2))), ((rO 3), .inl (cI, 8, .inl (aO 3))), ((rO 4), .inl (cI, 8, .inl (aO 4))), ((rO 5), .inl (cI, 4, .inl (aO 5))), ((rO 6), .inl (cI, 4, .inl (aO 6))), ((rO 7), .inl (cI, 4, .inl (aO 7))), ((rO 8), .inl (cI, 4, .inl (aO 8))), ((rO 9), .inl (cI, 4, .inl (aO 9))), ((rO 10), .inl (cI, 4, .inl (aO 10))), ((rO 11), .inl (cI, 4, .inl (aO 11))), ((rO 12), .inl (cI, 4, .inl (aO 12))), ((rO 19), .inl (cI, 96, .inl (upd (aO 19) (oO 23).toNatClampNeg p0))), ((rO 20), .inl (cI, 48, .inl (aO 20))), ((rO 21), .inl (cI, 48, .inl (aO 21))), ((rO 22), .inl (cI, 192, .inl (aO 22))), ((rO 26), .inl (cI, 160, .inl (aO 26))), ((rO 38), .inl (cI, 54, .inl (aO 38))), ((rO 39), .inl (cI, 9, .inl (aO 39))), ((rO 40), .inl (cI, 9, .inl (aO 40))), ((rO 44), .inl (cI, 12, .inl (aO 44)))] _ := hP
      have hD : va_D A [(adO, .inr (7, [.ref (rO 0), .ref (rO 1), .ref (rO 2), .ref (rO 3), .ref (rO 4), .ref (rO 5), .ref (rO 6), .ref (rO 7), .ref (rO 8), .ref (rO 9), .ref (rO 10), .ref (rO 11), .ref (rO 12), .int (oO 13), .int (oO 14), .int (oO 15), .int (oO 16), .int (oO 17), .int (oO 18), .ref (rO 19), .ref (rO 20), .ref (rO 21), .ref (rO 22), .int (oO 23), .int (oO 24), .int (oO 25), .ref (rO 26), .int (oO 27), .int (oO 28), .int (oO 29), .int (oO 30), .int (oO 31), .int (oO 32), .int (oO 33), .int (oO 34), .int (oO 35), .int (oO 36), .int (oO 37), .ref (rO 38), .ref (rO 39), .ref (rO 40), .int (oO 41), .int (oO 42), .int (oO 43), .ref (rO 44), .int (oO 45)])), ((rO 0), .inl (cI, 7, .inl (aO 0))), ((rO 1), .inl (cI, 8, .inl (aO 1))), ((rO 2), .inl (cI, 8, .inl (aO 2))), ((rO 3), .inl (cI, 8, .inl (aO 3))), ((rO 4), .inl (cI, 8, .inl (aO 4))), ((rO 5), .inl (cI, 4, .inl (aO 5))), ((rO 6), .inl (cI, 4, .inl (aO 6))), ((rO 7), .inl (cI, 4, .inl (aO 7))), ((rO 8), .inl (cI, 4, .inl (aO 8))), ((rO 9), .inl (cI, 4, .inl (aO 9))), ((rO 10), .inl (cI, 4, .inl (aO 10))), ((rO 11), .inl (cI, 4, .inl (aO 11))), ((rO 12), .inl (cI, 4, .inl (aO 12))), ((rO 19), .inl (cI, 96, .inl (upd (aO 19) (oO 23).toNatClampNeg p0))), ((rO 20), .inl (cI, 48, .inl (aO 20))), ((rO 21), .inl (cI, 48, .inl (aO 21))), ((rO 22), .inl (cI, 192, .inl (aO 22))), ((rO 26), .inl (cI, 160, .inl (aO 26))), ((rO 38), .inl (cI, 54, .inl (aO 38))), ((rO 39), .inl (cI, 9, .inl (aO 39))), ((rO 40), .inl (cI, 9, .inl (aO 40))), ((rO 44), .inl (cI, 12, .inl (aO 44)))] := hD
      refine lv_aload_n hx hb dX7_feed_45 rfl (lv_at hl 1 rfl) ?_
      refine lv_dup hx hb dX7_feed_46 rfl ?_
      refine va_get (D := D) (ci := 7) (v := .int (oO 23)) (C := RX7) (T := TX7) (N := 46) hx hb hts (fun _ h => w_in (inlX7 _ h)) hown hK hP 0 rfl rfl 23 (by decide) (htL _ wd_156) (fun _ h9 => h9) rfl dX7_feed_47 ?_
      refine lv_iconst (v := 1) hx hb dX7_feed_50 (by decide) ?_
      refine lv_iadd hx hb dX7_feed_51 ?_
      refine lv_topi (fun x_4 ex_4 => ?_)
      refine va_put (D := D) (ci := 7) (v := .int x_4) (ty := .int) (C := RX7) (T := TX7) (N := 46) hx hb hts (fun _ h => w_in (inlX7 _ h)) tyX7 tyX7_ok nmX7 hown hK hP hD hS 0 rfl rfl 23 (by decide) (htL _ wd_156) (fun _ h9 => h9) rfl (by decide +kernel) rfl rfl (Nat.le_of_ble_eq_true rfl) dX7_feed_52 (fun H locs hP hD hS => ?_)
      have hP : va_P D vwCl [(adO, .inr (7, [.ref (rO 0), .ref (rO 1), .ref (rO 2), .ref (rO 3), .ref (rO 4), .ref (rO 5), .ref (rO 6), .ref (rO 7), .ref (rO 8), .ref (rO 9), .ref (rO 10), .ref (rO 11), .ref (rO 12), .int (oO 13), .int (oO 14), .int (oO 15), .int (oO 16), .int (oO 17), .int (oO 18), .ref (rO 19), .ref (rO 20), .ref (rO 21), .ref (rO 22), .int x_4, .int (oO 24), .int (oO 25), .ref (rO 26), .int (oO 27), .int (oO 28), .int (oO 29), .int (oO 30), .int (oO 31), .int (oO 32), .int (oO 33), .int (oO 34), .int (oO 35), .int (oO 36), .int (oO 37), .ref (rO 38), .ref (rO 39), .ref (rO 40), .int (oO 41), .int (oO 42), .int (oO 43), .ref (rO 44), .int (oO 45)])), ((rO 0), .inl (cI, 7, .inl (aO 0))), ((rO 1), .inl (cI, 8, .inl (aO 1))), ((rO 2), .inl (cI, 8, .inl (aO 2))), ((rO 3), .inl (cI, 8, .inl (aO 3))), ((rO 4), .inl (cI, 8, .inl (aO 4))), ((rO 5), .inl (cI, 4, .inl (aO 5))), ((rO 6), .inl (cI, 4, .inl (aO 6))), ((rO 7), .inl (cI, 4, .inl (aO 7))), ((rO 8), .inl (cI, 4, .inl (aO 8))), ((rO 9), .inl (cI, 4, .inl (aO 9))), ((rO 10), .inl (cI, 4, .inl (aO 10))), ((rO 11), .inl (cI, 4, .inl (aO 11))), ((rO 12), .inl (cI, 4, .inl (aO 12))), ((rO 19), .inl (cI, 96, .inl (upd (aO 19) (oO 23).toNatClampNeg p0))), ((rO 20), .inl (cI, 48, .inl (aO 20))), ((rO 21), .inl (cI, 48, .inl (aO 21))), ((rO 22), .inl (cI, 192, .inl (aO 22))), ((rO 26), .inl (cI, 160, .inl (aO 26))), ((rO 38), .inl (cI, 54, .inl (aO 38))), ((rO 39), .inl (cI, 9, .inl (aO 39))), ((rO 40), .inl (cI, 9, .inl (aO 40))), ((rO 44), .inl (cI, 12, .inl (aO 44)))] _ := hP
      have hD : va_D A [(adO, .inr (7, [.ref (rO 0), .ref (rO 1), .ref (rO 2), .ref (rO 3), .ref (rO 4), .ref (rO 5), .ref (rO 6), .ref (rO 7), .ref (rO 8), .ref (rO 9), .ref (rO 10), .ref (rO 11), .ref (rO 12), .int (oO 13), .int (oO 14), .int (oO 15), .int (oO 16), .int (oO 17), .int (oO 18), .ref (rO 19), .ref (rO 20), .ref (rO 21), .ref (rO 22), .int x_4, .int (oO 24), .int (oO 25), .ref (rO 26), .int (oO 27), .int (oO 28), .int (oO 29), .int (oO 30), .int (oO 31), .int (oO 32), .int (oO 33), .int (oO 34), .int (oO 35), .int (oO 36), .int (oO 37), .ref (rO 38), .ref (rO 39), .ref (rO 40), .int (oO 41), .int (oO 42), .int (oO 43), .ref (rO 44), .int (oO 45)])), ((rO 0), .inl (cI, 7, .inl (aO 0))), ((rO 1), .inl (cI, 8, .inl (aO 1))), ((rO 2), .inl (cI, 8, .inl (aO 2))), ((rO 3), .inl (cI, 8, .inl (aO 3))), ((rO 4), .inl (cI, 8, .inl (aO 4))), ((rO 5), .inl (cI, 4, .inl (aO 5))), ((rO 6), .inl (cI, 4, .inl (aO 6))), ((rO 7), .inl (cI, 4, .inl (aO 7))), ((rO 8), .inl (cI, 4, .inl (aO 8))), ((rO 9), .inl (cI, 4, .inl (aO 9))), ((rO 10), .inl (cI, 4, .inl (aO 10))), ((rO 11), .inl (cI, 4, .inl (aO 11))), ((rO 12), .inl (cI, 4, .inl (aO 12))), ((rO 19), .inl (cI, 96, .inl (upd (aO 19) (oO 23).toNatClampNeg p0))), ((rO 20), .inl (cI, 48, .inl (aO 20))), ((rO 21), .inl (cI, 48, .inl (aO 21))), ((rO 22), .inl (cI, 192, .inl (aO 22))), ((rO 26), .inl (cI, 160, .inl (aO 26))), ((rO 38), .inl (cI, 54, .inl (aO 38))), ((rO 39), .inl (cI, 9, .inl (aO 39))), ((rO 40), .inl (cI, 9, .inl (aO 40))), ((rO 44), .inl (cI, 12, .inl (aO 44)))] := hD
      refine lv_aload_n hx hb dX7_feed_55 rfl (lv_at hl 1 rfl) ?_
      refine va_get (D := D) (ci := 7) (v := .int x_4) (C := RX7) (T := TX7) (N := 46) hx hb hts (fun _ h => w_in (inlX7 _ h)) hown hK hP 0 rfl rfl 23 (by decide) (htL _ wd_156) (fun _ h9 => h9) rfl dX7_feed_56 ?_
      have hF1 : F_X7_feed oO aO p0 = (x_4, x_4, (aO 0), (upd (aO 19) (oO 23).toNatClampNeg p0)) := (eX7_feed_1 oO aO p0 r_1 x_4 er_1 ex_4 c_2 c_3)
      exact xi_ret hx hb hr hlocks hP hS (congrArg (fun o : Int32 × Int32 × (Nat → Int32) × (Nat → Int32) => ([(adO, .inr (7, [.ref (rO 0), .ref (rO 1), .ref (rO 2), .ref (rO 3), .ref (rO 4), .ref (rO 5), .ref (rO 6), .ref (rO 7), .ref (rO 8), .ref (rO 9), .ref (rO 10), .ref (rO 11), .ref (rO 12), .int (oO 13), .int (oO 14), .int (oO 15), .int (oO 16), .int (oO 17), .int (oO 18), .ref (rO 19), .ref (rO 20), .ref (rO 21), .ref (rO 22), .int o.2.1, .int (oO 24), .int (oO 25), .ref (rO 26), .int (oO 27), .int (oO 28), .int (oO 29), .int (oO 30), .int (oO 31), .int (oO 32), .int (oO 33), .int (oO 34), .int (oO 35), .int (oO 36), .int (oO 37), .ref (rO 38), .ref (rO 39), .ref (rO 40), .int (oO 41), .int (oO 42), .int (oO 43), .ref (rO 44), .int (oO 45)])), ((rO 0), .inl (cI, 7, .inl o.2.2.1)), ((rO 1), .inl (cI, 8, .inl (aO 1))), ((rO 2), .inl (cI, 8, .inl (aO 2))), ((rO 3), .inl (cI, 8, .inl (aO 3))), ((rO 4), .inl (cI, 8, .inl (aO 4))), ((rO 5), .inl (cI, 4, .inl (aO 5))), ((rO 6), .inl (cI, 4, .inl (aO 6))), ((rO 7), .inl (cI, 4, .inl (aO 7))), ((rO 8), .inl (cI, 4, .inl (aO 8))), ((rO 9), .inl (cI, 4, .inl (aO 9))), ((rO 10), .inl (cI, 4, .inl (aO 10))), ((rO 11), .inl (cI, 4, .inl (aO 11))), ((rO 12), .inl (cI, 4, .inl (aO 12))), ((rO 19), .inl (cI, 96, .inl o.2.2.2)), ((rO 20), .inl (cI, 48, .inl (aO 20))), ((rO 21), .inl (cI, 48, .inl (aO 21))), ((rO 22), .inl (cI, 192, .inl (aO 22))), ((rO 26), .inl (cI, 160, .inl (aO 26))), ((rO 38), .inl (cI, 54, .inl (aO 38))), ((rO 39), .inl (cI, 9, .inl (aO 39))), ((rO 40), .inl (cI, 9, .inl (aO 40))), ((rO 44), .inl (cI, 12, .inl (aO 44)))] : va_W)) hF1).symm (congrArg (fun o : Int32 × Int32 × (Nat → Int32) × (Nat → Int32) => o.1) hF1).symm dX7_feed_59
    · refine lv_aload_n hx hb dX7_feed_29 rfl (lv_at hl 1 rfl) ?_
      refine lv_iload_n hx hb dX7_feed_30 rfl (lv_at hl 0 rfl) ?_
      refine x_wi2 (a := ([(adO, .inr (7, [.ref (rO 0), .ref (rO 1), .ref (rO 2), .ref (rO 3), .ref (rO 4), .ref (rO 5), .ref (rO 6), .ref (rO 7), .ref (rO 8), .ref (rO 9), .ref (rO 10), .ref (rO 11), .ref (rO 12), .int (oO 13), .int (oO 14), .int (oO 15), .int (oO 16), .int (oO 17), .int (oO 18), .ref (rO 19), .ref (rO 20), .ref (rO 21), .ref (rO 22), .int (oO 23), .int (oO 24), .int (oO 25), .ref (rO 26), .int (oO 27), .int (oO 28), .int (oO 29), .int (oO 30), .int (oO 31), .int (oO 32), .int (oO 33), .int (oO 34), .int (oO 35), .int (oO 36), .int (oO 37), .ref (rO 38), .ref (rO 39), .ref (rO 40), .int (oO 41), .int (oO 42), .int (oO 43), .ref (rO 44), .int (oO 45)])), ((rO 0), .inl (cI, 7, .inl (aO 0))), ((rO 1), .inl (cI, 8, .inl (aO 1))), ((rO 2), .inl (cI, 8, .inl (aO 2))), ((rO 3), .inl (cI, 8, .inl (aO 3))), ((rO 4), .inl (cI, 8, .inl (aO 4))), ((rO 5), .inl (cI, 4, .inl (aO 5))), ((rO 6), .inl (cI, 4, .inl (aO 6))), ((rO 7), .inl (cI, 4, .inl (aO 7))), ((rO 8), .inl (cI, 4, .inl (aO 8))), ((rO 9), .inl (cI, 4, .inl (aO 9))), ((rO 10), .inl (cI, 4, .inl (aO 10))), ((rO 11), .inl (cI, 4, .inl (aO 11))), ((rO 12), .inl (cI, 4, .inl (aO 12))), ((rO 19), .inl (cI, 96, .inl (aO 19))), ((rO 20), .inl (cI, 48, .inl (aO 20))), ((rO 21), .inl (cI, 48, .inl (aO 21))), ((rO 22), .inl (cI, 192, .inl (aO 22))), ((rO 26), .inl (cI, 160, .inl (aO 26))), ((rO 38), .inl (cI, 54, .inl (aO 38))), ((rO 39), .inl (cI, 9, .inl (aO 39))), ((rO 40), .inl (cI, 9, .inl (aO 40))), ((rO 44), .inl (cI, 12, .inl (aO 44)))] : va_W)) (t := []) (o0 := (F_X7_no oO aO r_1)) (fun o : Int32 × (Nat → Int32) => o.1) (fun o : Int32 × (Nat → Int32) => ([(adO, .inr (7, [.ref (rO 0), .ref (rO 1), .ref (rO 2), .ref (rO 3), .ref (rO 4), .ref (rO 5), .ref (rO 6), .ref (rO 7), .ref (rO 8), .ref (rO 9), .ref (rO 10), .ref (rO 11), .ref (rO 12), .int (oO 13), .int (oO 14), .int (oO 15), .int (oO 16), .int (oO 17), .int (oO 18), .ref (rO 19), .ref (rO 20), .ref (rO 21), .ref (rO 22), .int (oO 23), .int (oO 24), .int (oO 25), .ref (rO 26), .int (oO 27), .int (oO 28), .int (oO 29), .int (oO 30), .int (oO 31), .int (oO 32), .int (oO 33), .int (oO 34), .int (oO 35), .int (oO 36), .int (oO 37), .ref (rO 38), .ref (rO 39), .ref (rO 40), .int (oO 41), .int (oO 42), .int (oO 43), .ref (rO 44), .int (oO 45)])), ((rO 0), .inl (cI, 7, .inl o.2)), ((rO 1), .inl (cI, 8, .inl (aO 1))), ((rO 2), .inl (cI, 8, .inl (aO 2))), ((rO 3), .inl (cI, 8, .inl (aO 3))), ((rO 4), .inl (cI, 8, .inl (aO 4))), ((rO 5), .inl (cI, 4, .inl (aO 5))), ((rO 6), .inl (cI, 4, .inl (aO 6))), ((rO 7), .inl (cI, 4, .inl (aO 7))), ((rO 8), .inl (cI, 4, .inl (aO 8))), ((rO 9), .inl (cI, 4, .inl (aO 9))), ((rO 10), .inl (cI, 4, .inl (aO 10))), ((rO 11), .inl (cI, 4, .inl (aO 11))), ((rO 12), .inl (cI, 4, .inl (aO 12))), ((rO 19), .inl (cI, 96, .inl (aO 19))), ((rO 20), .inl (cI, 48, .inl (aO 20))), ((rO 21), .inl (cI, 48, .inl (aO 21))), ((rO 22), .inl (cI, 192, .inl (aO 22))), ((rO 26), .inl (cI, 160, .inl (aO 26))), ((rO 38), .inl (cI, 54, .inl (aO 38))), ((rO 39), .inl (cI, 9, .inl (aO 39))), ((rO 40), .inl (cI, 9, .inl (aO 40))), ((rO 44), .inl (cI, 12, .inl (aO 44)))] : va_W)) (fun o : Int32 × (Nat → Int32) => ([(adO, .inr (7, [.ref (rO 0), .ref (rO 1), .ref (rO 2), .ref (rO 3), .ref (rO 4), .ref (rO 5), .ref (rO 6), .ref (rO 7), .ref (rO 8), .ref (rO 9), .ref (rO 10), .ref (rO 11), .ref (rO 12), .int (oO 13), .int (oO 14), .int (oO 15), .int (oO 16), .int (oO 17), .int (oO 18), .ref (rO 19), .ref (rO 20), .ref (rO 21), .ref (rO 22), .int (oO 23), .int (oO 24), .int (oO 25), .ref (rO 26), .int (oO 27), .int (oO 28), .int (oO 29), .int (oO 30), .int (oO 31), .int (oO 32), .int (oO 33), .int (oO 34), .int (oO 35), .int (oO 36), .int (oO 37), .ref (rO 38), .ref (rO 39), .ref (rO 40), .int (oO 41), .int (oO 42), .int (oO 43), .ref (rO 44), .int (oO 45)])), ((rO 0), .inl (cI, 7, .inl o.2)), ((rO 1), .inl (cI, 8, .inl (aO 1))), ((rO 2), .inl (cI, 8, .inl (aO 2))), ((rO 3), .inl (cI, 8, .inl (aO 3))), ((rO 4), .inl (cI, 8, .inl (aO 4))), ((rO 5), .inl (cI, 4, .inl (aO 5))), ((rO 6), .inl (cI, 4, .inl (aO 6))), ((rO 7), .inl (cI, 4, .inl (aO 7))), ((rO 8), .inl (cI, 4, .inl (aO 8))), ((rO 9), .inl (cI, 4, .inl (aO 9))), ((rO 10), .inl (cI, 4, .inl (aO 10))), ((rO 11), .inl (cI, 4, .inl (aO 11))), ((rO 12), .inl (cI, 4, .inl (aO 12))), ((rO 19), .inl (cI, 96, .inl (aO 19))), ((rO 20), .inl (cI, 48, .inl (aO 20))), ((rO 21), .inl (cI, 48, .inl (aO 21))), ((rO 22), .inl (cI, 192, .inl (aO 22))), ((rO 26), .inl (cI, 160, .inl (aO 26))), ((rO 38), .inl (cI, 54, .inl (aO 38))), ((rO 39), .inl (cI, 9, .inl (aO 39))), ((rO 40), .inl (cI, 9, .inl (aO 40))), ((rO 44), .inl (cI, 12, .inl (aO 44)))] : va_W)) [0, 1, 2, 3, 4, 5, 6, 7, 8, 9, 10, 11, 12, 13, 14, 15, 16, 17, 18, 19, 20, 21, 22] [] (va_runV (As := [.int r_1]) (rest := []) ⟨hx, hb, hml, hown, hts⟩ (c_X7_no l D cI cL adO rO oO aO r_1 (show -7 < r_1.toInt ∧ r_1.toInt ≤ 0 from by first | assumption | decide | (have l0 : (0 : Int32).toInt = 0 := rfl; have l1 : (1 : Int32).toInt = 1 := rfl; have qc_2 := x_ne c_2; have qsc_2 : r_1.toInt = -4 ∨ r_1.toInt = -6 := (by have h9 := sem_X7_bound_n er_1 c_2; exact h9); have qc_3 := x_ne c_3; have qsc_3 : r_1.toInt = -4 ∨ r_1.toInt = -6 := (by have h9 := sem_X7_bound_n er_1 c_3; exact h9); omega)) _) (cwV 1 hts (gv_ok (fun _ h => w_in h) wd_163 wd_160 wd_161 wd_162 wd_5) rfl rfl rfl (by decide +kernel) ⟨Nat.le_of_ble_eq_true rfl, Nat.le_of_ble_eq_true rfl⟩) (x_pv hN hK hP hD [0, 1, 2, 3, 4, 5, 6, 7, 8, 9, 10, 11, 12, 13, 14, 15, 16, 17, 18, 19, 20, 21, 22] rfl rfl (ci := 7) (q0 := 0) rfl rfl) rfl rfl hl.1 rfl (lv_room (Nat.le_of_ble_eq_true rfl)) dX7_feed_31 ⟨Nat.zero_le _, Nat.zero_le _⟩) hP hD hS hA rfl (fun _ => rfl) (fun _ => rfl) [] rfl (fun _ => rfl) rfl (fun o_5 r_6 H locs eo_5 er_6 hP hD hS => ?_)
      have hP : va_P D vwCl [(adO, .inr (7, [.ref (rO 0), .ref (rO 1), .ref (rO 2), .ref (rO 3), .ref (rO 4), .ref (rO 5), .ref (rO 6), .ref (rO 7), .ref (rO 8), .ref (rO 9), .ref (rO 10), .ref (rO 11), .ref (rO 12), .int (oO 13), .int (oO 14), .int (oO 15), .int (oO 16), .int (oO 17), .int (oO 18), .ref (rO 19), .ref (rO 20), .ref (rO 21), .ref (rO 22), .int (oO 23), .int (oO 24), .int (oO 25), .ref (rO 26), .int (oO 27), .int (oO 28), .int (oO 29), .int (oO 30), .int (oO 31), .int (oO 32), .int (oO 33), .int (oO 34), .int (oO 35), .int (oO 36), .int (oO 37), .ref (rO 38), .ref (rO 39), .ref (rO 40), .int (oO 41), .int (oO 42), .int (oO 43), .ref (rO 44), .int (oO 45)])), ((rO 0), .inl (cI, 7, .inl o_5.2)), ((rO 1), .inl (cI, 8, .inl (aO 1))), ((rO 2), .inl (cI, 8, .inl (aO 2))), ((rO 3), .inl (cI, 8, .inl (aO 3))), ((rO 4), .inl (cI, 8, .inl (aO 4))), ((rO 5), .inl (cI, 4, .inl (aO 5))), ((rO 6), .inl (cI, 4, .inl (aO 6))), ((rO 7), .inl (cI, 4, .inl (aO 7))), ((rO 8), .inl (cI, 4, .inl (aO 8))), ((rO 9), .inl (cI, 4, .inl (aO 9))), ((rO 10), .inl (cI, 4, .inl (aO 10))), ((rO 11), .inl (cI, 4, .inl (aO 11))), ((rO 12), .inl (cI, 4, .inl (aO 12))), ((rO 19), .inl (cI, 96, .inl (aO 19))), ((rO 20), .inl (cI, 48, .inl (aO 20))), ((rO 21), .inl (cI, 48, .inl (aO 21))), ((rO 22), .inl (cI, 192, .inl (aO 22))), ((rO 26), .inl (cI, 160, .inl (aO 26))), ((rO 38), .inl (cI, 54, .inl (aO 38))), ((rO 39), .inl (cI, 9, .inl (aO 39))), ((rO 40), .inl (cI, 9, .inl (aO 40))), ((rO 44), .inl (cI, 12, .inl (aO 44)))] _ := hP
      have hD : va_D A [(adO, .inr (7, [.ref (rO 0), .ref (rO 1), .ref (rO 2), .ref (rO 3), .ref (rO 4), .ref (rO 5), .ref (rO 6), .ref (rO 7), .ref (rO 8), .ref (rO 9), .ref (rO 10), .ref (rO 11), .ref (rO 12), .int (oO 13), .int (oO 14), .int (oO 15), .int (oO 16), .int (oO 17), .int (oO 18), .ref (rO 19), .ref (rO 20), .ref (rO 21), .ref (rO 22), .int (oO 23), .int (oO 24), .int (oO 25), .ref (rO 26), .int (oO 27), .int (oO 28), .int (oO 29), .int (oO 30), .int (oO 31), .int (oO 32), .int (oO 33), .int (oO 34), .int (oO 35), .int (oO 36), .int (oO 37), .ref (rO 38), .ref (rO 39), .ref (rO 40), .int (oO 41), .int (oO 42), .int (oO 43), .ref (rO 44), .int (oO 45)])), ((rO 0), .inl (cI, 7, .inl o_5.2)), ((rO 1), .inl (cI, 8, .inl (aO 1))), ((rO 2), .inl (cI, 8, .inl (aO 2))), ((rO 3), .inl (cI, 8, .inl (aO 3))), ((rO 4), .inl (cI, 8, .inl (aO 4))), ((rO 5), .inl (cI, 4, .inl (aO 5))), ((rO 6), .inl (cI, 4, .inl (aO 6))), ((rO 7), .inl (cI, 4, .inl (aO 7))), ((rO 8), .inl (cI, 4, .inl (aO 8))), ((rO 9), .inl (cI, 4, .inl (aO 9))), ((rO 10), .inl (cI, 4, .inl (aO 10))), ((rO 11), .inl (cI, 4, .inl (aO 11))), ((rO 12), .inl (cI, 4, .inl (aO 12))), ((rO 19), .inl (cI, 96, .inl (aO 19))), ((rO 20), .inl (cI, 48, .inl (aO 20))), ((rO 21), .inl (cI, 48, .inl (aO 21))), ((rO 22), .inl (cI, 192, .inl (aO 22))), ((rO 26), .inl (cI, 160, .inl (aO 26))), ((rO 38), .inl (cI, 54, .inl (aO 38))), ((rO 39), .inl (cI, 9, .inl (aO 39))), ((rO 40), .inl (cI, 9, .inl (aO 40))), ((rO 44), .inl (cI, 12, .inl (aO 44)))] := hD
      have hF1 : F_X7_feed oO aO p0 = (r_6, (oO 23), o_5.2, (aO 19)) := (eX7_feed_2 oO aO p0 r_1 o_5 r_6 er_1 er_6 eo_5 c_2 c_3)
      exact xi_ret hx hb hr hlocks hP hS (congrArg (fun o : Int32 × Int32 × (Nat → Int32) × (Nat → Int32) => ([(adO, .inr (7, [.ref (rO 0), .ref (rO 1), .ref (rO 2), .ref (rO 3), .ref (rO 4), .ref (rO 5), .ref (rO 6), .ref (rO 7), .ref (rO 8), .ref (rO 9), .ref (rO 10), .ref (rO 11), .ref (rO 12), .int (oO 13), .int (oO 14), .int (oO 15), .int (oO 16), .int (oO 17), .int (oO 18), .ref (rO 19), .ref (rO 20), .ref (rO 21), .ref (rO 22), .int o.2.1, .int (oO 24), .int (oO 25), .ref (rO 26), .int (oO 27), .int (oO 28), .int (oO 29), .int (oO 30), .int (oO 31), .int (oO 32), .int (oO 33), .int (oO 34), .int (oO 35), .int (oO 36), .int (oO 37), .ref (rO 38), .ref (rO 39), .ref (rO 40), .int (oO 41), .int (oO 42), .int (oO 43), .ref (rO 44), .int (oO 45)])), ((rO 0), .inl (cI, 7, .inl o.2.2.1)), ((rO 1), .inl (cI, 8, .inl (aO 1))), ((rO 2), .inl (cI, 8, .inl (aO 2))), ((rO 3), .inl (cI, 8, .inl (aO 3))), ((rO 4), .inl (cI, 8, .inl (aO 4))), ((rO 5), .inl (cI, 4, .inl (aO 5))), ((rO 6), .inl (cI, 4, .inl (aO 6))), ((rO 7), .inl (cI, 4, .inl (aO 7))), ((rO 8), .inl (cI, 4, .inl (aO 8))), ((rO 9), .inl (cI, 4, .inl (aO 9))), ((rO 10), .inl (cI, 4, .inl (aO 10))), ((rO 11), .inl (cI, 4, .inl (aO 11))), ((rO 12), .inl (cI, 4, .inl (aO 12))), ((rO 19), .inl (cI, 96, .inl o.2.2.2)), ((rO 20), .inl (cI, 48, .inl (aO 20))), ((rO 21), .inl (cI, 48, .inl (aO 21))), ((rO 22), .inl (cI, 192, .inl (aO 22))), ((rO 26), .inl (cI, 160, .inl (aO 26))), ((rO 38), .inl (cI, 54, .inl (aO 38))), ((rO 39), .inl (cI, 9, .inl (aO 39))), ((rO 40), .inl (cI, 9, .inl (aO 40))), ((rO 44), .inl (cI, 12, .inl (aO 44)))] : va_W)) hF1).symm (congrArg (fun o : Int32 × Int32 × (Nat → Int32) × (Nat → Int32) => o.1) hF1).symm dX7_feed_34
  · refine lv_aload_n hx hb dX7_feed_13 rfl (lv_at hl 1 rfl) ?_
    refine va_get (D := D) (ci := 7) (v := .int (oO 23)) (C := RX7) (T := TX7) (N := 46) hx hb hts (fun _ h => w_in (inlX7 _ h)) hown hK hP 0 rfl rfl 23 (by decide) (htL _ wd_156) (fun _ h9 => h9) rfl dX7_feed_14 ?_
    refine lv_bipush (v := 96) hx hb dX7_feed_17 (by decide) ?_
    refine lv_icmp_ne (tgt := 25) hx hb dX7_feed_19 (by decide) (fun c_7 => ?_) (fun c_7 => ?_)
    · refine lv_iload_n hx hb dX7_feed_25 rfl (lv_at hl 0 rfl) ?_
      refine lv_if_eq (tgt := 35) hx hb dX7_feed_26 (by decide) (fun c_8 => ?_) (fun c_8 => ?_)
      · refine lv_aload_n hx hb dX7_feed_35 rfl (lv_at hl 1 rfl) ?_
        refine va_get (D := D) (ci := 7) (v := .ref (rO 19)) (C := RX7) (T := TX7) (N := 46) hx hb hts (fun _ h => w_in (inlX7 _ h)) hown hK hP 0 rfl rfl 19 (by decide) (htL _ wd_119) (fun _ h9 => h9) rfl dX7_feed_36 ?_
        refine lv_aload_n hx hb dX7_feed_39 rfl (lv_at hl 1 rfl) ?_
        refine va_get (D := D) (ci := 7) (v := .int (oO 23)) (C := RX7) (T := TX7) (N := 46) hx hb hts (fun _ h => w_in (inlX7 _ h)) hown hK hP 0 rfl rfl 23 (by decide) (htL _ wd_156) (fun _ h9 => h9) rfl dX7_feed_40 ?_
        refine lv_iload_n hx hb dX7_feed_43 rfl (lv_at hl 2 rfl) ?_
        refine va_iast hx hb hK hP hD hS 14 0 rfl rfl (vp_in_iff.mpr (by have l0 : (0 : Int32).toInt = 0 := rfl; have l1 : (1 : Int32).toInt = 1 := rfl; have l23 : (23 : Int32).toInt = 23 := rfl; have l96 : (96 : Int32).toInt = 96 := rfl; have l255 : (255 : Int32).toInt = 255 := rfl; have qc_2 := i_eq c_2; have qsc_2 : (0 : Int32).toInt ≤ p0.toInt ∧ p0.toInt ≤ (255 : Int32).toInt := (by have h9 := sem_X7_bound_z er_1 c_2; exact h9); have qc_7 := x_ne c_7; have qc_8 := i_eq c_8; have qsc_8 : (0 : Int32).toInt ≤ p0.toInt ∧ p0.toInt ≤ (255 : Int32).toInt := (by have h9 := sem_X7_bound_z er_1 c_8; exact h9); omega)) dX7_feed_44 (fun H locs hP hD hS => ?_)
        have hP : va_P D vwCl [(adO, .inr (7, [.ref (rO 0), .ref (rO 1), .ref (rO 2), .ref (rO 3), .ref (rO 4), .ref (rO 5), .ref (rO 6), .ref (rO 7), .ref (rO 8), .ref (rO 9), .ref (rO 10), .ref (rO 11), .ref (rO 12), .int (oO 13), .int (oO 14), .int (oO 15), .int (oO 16), .int (oO 17), .int (oO 18), .ref (rO 19), .ref (rO 20), .ref (rO 21), .ref (rO 22), .int (oO 23), .int (oO 24), .int (oO 25), .ref (rO 26), .int (oO 27), .int (oO 28), .int (oO 29), .int (oO 30), .int (oO 31), .int (oO 32), .int (oO 33), .int (oO 34), .int (oO 35), .int (oO 36), .int (oO 37), .ref (rO 38), .ref (rO 39), .ref (rO 40), .int (oO 41), .int (oO 42), .int (oO 43), .ref (rO 44), .int (oO 45)])), ((rO 0), .inl (cI, 7, .inl (aO 0))), ((rO 1), .inl (cI, 8, .inl (aO 1))), ((rO 2), .inl (cI, 8, .inl (aO 2))), ((rO 3), .inl (cI, 8, .inl (aO 3))), ((rO 4), .inl (cI, 8, .inl (aO 4))), ((rO 5), .inl (cI, 4, .inl (aO 5))), ((rO 6), .inl (cI, 4, .inl (aO 6))), ((rO 7), .inl (cI, 4, .inl (aO 7))), ((rO 8), .inl (cI, 4, .inl (aO 8))), ((rO 9), .inl (cI, 4, .inl (aO 9))), ((rO 10), .inl (cI, 4, .inl (aO 10))), ((rO 11), .inl (cI, 4, .inl (aO 11))), ((rO 12), .inl (cI, 4, .inl (aO 12))), ((rO 19), .inl (cI, 96, .inl (upd (aO 19) (oO 23).toNatClampNeg p0))), ((rO 20), .inl (cI, 48, .inl (aO 20))), ((rO 21), .inl (cI, 48, .inl (aO 21))), ((rO 22), .inl (cI, 192, .inl (aO 22))), ((rO 26), .inl (cI, 160, .inl (aO 26))), ((rO 38), .inl (cI, 54, .inl (aO 38))), ((rO 39), .inl (cI, 9, .inl (aO 39))), ((rO 40), .inl (cI, 9, .inl (aO 40))), ((rO 44), .inl (cI, 12, .inl (aO 44)))] _ := hP
        have hD : va_D A [(adO, .inr (7, [.ref (rO 0), .ref (rO 1), .ref (rO 2), .ref (rO 3), .ref (rO 4), .ref (rO 5), .ref (rO 6), .ref (rO 7), .ref (rO 8), .ref (rO 9), .ref (rO 10), .ref (rO 11), .ref (rO 12), .int (oO 13), .int (oO 14), .int (oO 15), .int (oO 16), .int (oO 17), .int (oO 18), .ref (rO 19), .ref (rO 20), .ref (rO 21), .ref (rO 22), .int (oO 23), .int (oO 24), .int (oO 25), .ref (rO 26), .int (oO 27), .int (oO 28), .int (oO 29), .int (oO 30), .int (oO 31), .int (oO 32), .int (oO 33), .int (oO 34), .int (oO 35), .int (oO 36), .int (oO 37), .ref (rO 38), .ref (rO 39), .ref (rO 40), .int (oO 41), .int (oO 42), .int (oO 43), .ref (rO 44), .int (oO 45)])), ((rO 0), .inl (cI, 7, .inl (aO 0))), ((rO 1), .inl (cI, 8, .inl (aO 1))), ((rO 2), .inl (cI, 8, .inl (aO 2))), ((rO 3), .inl (cI, 8, .inl (aO 3))), ((rO 4), .inl (cI, 8, .inl (aO 4))), ((rO 5), .inl (cI, 4, .inl (aO 5))), ((rO 6), .inl (cI, 4, .inl (aO 6))), ((rO 7), .inl (cI, 4, .inl (aO 7))), ((rO 8), .inl (cI, 4, .inl (aO 8))), ((rO 9), .inl (cI, 4, .inl (aO 9))), ((rO 10), .inl (cI, 4, .inl (aO 10))), ((rO 11), .inl (cI, 4, .inl (aO 11))), ((rO 12), .inl (cI, 4, .inl (aO 12))), ((rO 19), .inl (cI, 96, .inl (upd (aO 19) (oO 23).toNatClampNeg p0))), ((rO 20), .inl (cI, 48, .inl (aO 20))), ((rO 21), .inl (cI, 48, .inl (aO 21))), ((rO 22), .inl (cI, 192, .inl (aO 22))), ((rO 26), .inl (cI, 160, .inl (aO 26))), ((rO 38), .inl (cI, 54, .inl (aO 38))), ((rO 39), .inl (cI, 9, .inl (aO 39))), ((rO 40), .inl (cI, 9, .inl (aO 40))), ((rO 44), .inl (cI, 12, .inl (aO 44)))] := hD
        refine lv_aload_n hx hb dX7_feed_45 rfl (lv_at hl 1 rfl) ?_
        refine lv_dup hx hb dX7_feed_46 rfl ?_
        refine va_get (D := D) (ci := 7) (v := .int (oO 23)) (C := RX7) (T := TX7) (N := 46) hx hb hts (fun _ h => w_in (inlX7 _ h)) hown hK hP 0 rfl rfl 23 (by decide) (htL _ wd_156) (fun _ h9 => h9) rfl dX7_feed_47 ?_
        refine lv_iconst (v := 1) hx hb dX7_feed_50 (by decide) ?_
        refine lv_iadd hx hb dX7_feed_51 ?_
        refine lv_topi (fun x_9 ex_9 => ?_)
        refine va_put (D := D) (ci := 7) (v := .int x_9) (ty := .int) (C := RX7) (T := TX7) (N := 46) hx hb hts (fun _ h => w_in (inlX7 _ h)) tyX7 tyX7_ok nmX7 hown hK hP hD hS 0 rfl rfl 23 (by decide) (htL _ wd_156) (fun _ h9 => h9) rfl (by decide +kernel) rfl rfl (Nat.le_of_ble_eq_true rfl) dX7_feed_52 (fun H locs hP hD hS => ?_)
        have hP : va_P D vwCl [(adO, .inr (7, [.ref (rO 0), .ref (rO 1), .ref (rO 2), .ref (rO 3), .ref (rO 4), .ref (rO 5), .ref (rO 6), .ref (rO 7), .ref (rO 8), .ref (rO 9), .ref (rO 10), .ref (rO 11), .ref (rO 12), .int (oO 13), .int (oO 14), .int (oO 15), .int (oO 16), .int (oO 17), .int (oO 18), .ref (rO 19), .ref (rO 20), .ref (rO 21), .ref (rO 22), .int x_9, .int (oO 24), .int (oO 25), .ref (rO 26), .int (oO 27), .int (oO 28), .int (oO 29), .int (oO 30), .int (oO 31), .int (oO 32), .int (oO 33), .int (oO 34), .int (oO 35), .int (oO 36), .int (oO 37), .ref (rO 38), .ref (rO 39), .ref (rO 40), .int (oO 41), .int (oO 42), .int (oO 43), .ref (rO 44), .int (oO 45)])), ((rO 0), .inl (cI, 7, .inl (aO 0))), ((rO 1), .inl (cI, 8, .inl (aO 1))), ((rO 2), .inl (cI, 8, .inl (aO 2))), ((rO 3), .inl (cI, 8, .inl (aO 3))), ((rO 4), .inl (cI, 8, .inl (aO 4))), ((rO 5), .inl (cI, 4, .inl (aO 5))), ((rO 6), .inl (cI, 4, .inl (aO 6))), ((rO 7), .inl (cI, 4, .inl (aO 7))), ((rO 8), .inl (cI, 4, .inl (aO 8))), ((rO 9), .inl (cI, 4, .inl (aO 9))), ((rO 10), .inl (cI, 4, .inl (aO 10))), ((rO 11), .inl (cI, 4, .inl (aO 11))), ((rO 12), .inl (cI, 4, .inl (aO 12))), ((rO 19), .inl (cI, 96, .inl (upd (aO 19) (oO 23).toNatClampNeg p0))), ((rO 20), .inl (cI, 48, .inl (aO 20))), ((rO 21), .inl (cI, 48, .inl (aO 21))), ((rO 22), .inl (cI, 192, .inl (aO 22))), ((rO 26), .inl (cI, 160, .inl (aO 26))), ((rO 38), .inl (cI, 54, .inl (aO 38))), ((rO 39), .inl (cI, 9, .inl (aO 39))), ((rO 40), .inl (cI, 9, .inl (aO 40))), ((rO 44), .inl (cI, 12, .inl (aO 44)))] _ := hP
        have hD : va_D A [(adO, .inr (7, [.ref (rO 0), .ref (rO 1), .ref (rO 2), .ref (rO 3), .ref (rO 4), .ref (rO 5), .ref (rO 6), .ref (rO 7), .ref (rO 8), .ref (rO 9), .ref (rO 10), .ref (rO 11), .ref (rO 12), .int (oO 13), .int (oO 14), .int (oO 15), .int (oO 16), .int (oO 17), .int (oO 18), .ref (rO 19), .ref (rO 20), .ref (rO 21), .ref (rO 22), .int x_9, .int (oO 24), .int (oO 25), .ref (rO 26), .int (oO 27), .int (oO 28), .int (oO 29), .int (oO 30), .int (oO 31), .int (oO 32), .int (oO 33), .int (oO 34), .int (oO 35), .int (oO 36), .int (oO 37), .ref (rO 38), .ref (rO 39), .ref (rO 40), .int (oO 41), .int (oO 42), .int (oO 43), .ref (rO 44), .int (oO 45)])), ((rO 0), .inl (cI, 7, .inl (aO 0))), ((rO 1), .inl (cI, 8, .inl (aO 1))), ((rO 2), .inl (cI, 8, .inl (aO 2))), ((rO 3), .inl (cI, 8, .inl (aO 3))), ((rO 4), .inl (cI, 8, .inl (aO 4))), ((rO 5), .inl (cI, 4, .inl (aO 5))), ((rO 6), .inl (cI, 4, .inl (aO 6))), ((rO 7), .inl (cI, 4, .inl (aO 7))), ((rO 8), .inl (cI, 4, .inl (aO 8))), ((rO 9), .inl (cI, 4, .inl (aO 9))), ((rO 10), .inl (cI, 4, .inl (aO 10))), ((rO 11), .inl (cI, 4, .inl (aO 11))), ((rO 12), .inl (cI, 4, .inl (aO 12))), ((rO 19), .inl (cI, 96, .inl (upd (aO 19) (oO 23).toNatClampNeg p0))), ((rO 20), .inl (cI, 48, .inl (aO 20))), ((rO 21), .inl (cI, 48, .inl (aO 21))), ((rO 22), .inl (cI, 192, .inl (aO 22))), ((rO 26), .inl (cI, 160, .inl (aO 26))), ((rO 38), .inl (cI, 54, .inl (aO 38))), ((rO 39), .inl (cI, 9, .inl (aO 39))), ((rO 40), .inl (cI, 9, .inl (aO 40))), ((rO 44), .inl (cI, 12, .inl (aO 44)))] := hD
        refine lv_aload_n hx hb dX7_feed_55 rfl (lv_at hl 1 rfl) ?_
        refine va_get (D := D) (ci := 7) (v := .int x_9) (C := RX7) (T := TX7) (N := 46) hx hb hts (fun _ h => w_in (inlX7 _ h)) hown hK hP 0 rfl rfl 23 (by decide) (htL _ wd_156) (fun _ h9 => h9) rfl dX7_feed_56 ?_
        have hF1 : F_X7_feed oO aO p0 = (x_9, x_9, (aO 0), (upd (aO 19) (oO 23).toNatClampNeg p0)) := (eX7_feed_3 oO aO p0 r_1 x_9 er_1 ex_9 c_2 c_7 c_8)
        exact xi_ret hx hb hr hlocks hP hS (congrArg (fun o : Int32 × Int32 × (Nat → Int32) × (Nat → Int32) => ([(adO, .inr (7, [.ref (rO 0), .ref (rO 1), .ref (rO 2), .ref (rO 3), .ref (rO 4), .ref (rO 5), .ref (rO 6), .ref (rO 7), .ref (rO 8), .ref (rO 9), .ref (rO 10), .ref (rO 11), .ref (rO 12), .int (oO 13), .int (oO 14), .int (oO 15), .int (oO 16), .int (oO 17), .int (oO 18), .ref (rO 19), .ref (rO 20), .ref (rO 21), .ref (rO 22), .int o.2.1, .int (oO 24), .int (oO 25), .ref (rO 26), .int (oO 27), .int (oO 28), .int (oO 29), .int (oO 30), .int (oO 31), .int (oO 32), .int (oO 33), .int (oO 34), .int (oO 35), .int (oO 36), .int (oO 37), .ref (rO 38), .ref (rO 39), .ref (rO 40), .int (oO 41), .int (oO 42), .int (oO 43), .ref (rO 44), .int (oO 45)])), ((rO 0), .inl (cI, 7, .inl o.2.2.1)), ((rO 1), .inl (cI, 8, .inl (aO 1))), ((rO 2), .inl (cI, 8, .inl (aO 2))), ((rO 3), .inl (cI, 8, .inl (aO 3))), ((rO 4), .inl (cI, 8, .inl (aO 4))), ((rO 5), .inl (cI, 4, .inl (aO 5))), ((rO 6), .inl (cI, 4, .inl (aO 6))), ((rO 7), .inl (cI, 4, .inl (aO 7))), ((rO 8), .inl (cI, 4, .inl (aO 8))), ((rO 9), .inl (cI, 4, .inl (aO 9))), ((rO 10), .inl (cI, 4, .inl (aO 10))), ((rO 11), .inl (cI, 4, .inl (aO 11))), ((rO 12), .inl (cI, 4, .inl (aO 12))), ((rO 19), .inl (cI, 96, .inl o.2.2.2)), ((rO 20), .inl (cI, 48, .inl (aO 20))), ((rO 21), .inl (cI, 48, .inl (aO 21))), ((rO 22), .inl (cI, 192, .inl (aO 22))), ((rO 26), .inl (cI, 160, .inl (aO 26))), ((rO 38), .inl (cI, 54, .inl (aO 38))), ((rO 39), .inl (cI, 9, .inl (aO 39))), ((rO 40), .inl (cI, 9, .inl (aO 40))), ((rO 44), .inl (cI, 12, .inl (aO 44)))] : va_W)) hF1).symm (congrArg (fun o : Int32 × Int32 × (Nat → Int32) × (Nat → Int32) => o.1) hF1).symm dX7_feed_59
      · refine lv_aload_n hx hb dX7_feed_29 rfl (lv_at hl 1 rfl) ?_
        refine lv_iload_n hx hb dX7_feed_30 rfl (lv_at hl 0 rfl) ?_
        refine x_wi2 (a := ([(adO, .inr (7, [.ref (rO 0), .ref (rO 1), .ref (rO 2), .ref (rO 3), .ref (rO 4), .ref (rO 5), .ref (rO 6), .ref (rO 7), .ref (rO 8), .ref (rO 9), .ref (rO 10), .ref (rO 11), .ref (rO 12), .int (oO 13), .int (oO 14), .int (oO 15), .int (oO 16), .int (oO 17), .int (oO 18), .ref (rO 19), .ref (rO 20), .ref (rO 21), .ref (rO 22), .int (oO 23), .int (oO 24), .int (oO 25), .ref (rO 26), .int (oO 27), .int (oO 28), .int (oO 29), .int (oO 30), .int (oO 31), .int (oO 32), .int (oO 33), .int (oO 34), .int (oO 35), .int (oO 36), .int (oO 37), .ref (rO 38), .ref (rO 39), .ref (rO 40), .int (oO 41), .int (oO 42), .int (oO 43), .ref (rO 44), .int (oO 45)])), ((rO 0), .inl (cI, 7, .inl (aO 0))), ((rO 1), .inl (cI, 8, .inl (aO 1))), ((rO 2), .inl (cI, 8, .inl (aO 2))), ((rO 3), .inl (cI, 8, .inl (aO 3))), ((rO 4), .inl (cI, 8, .inl (aO 4))), ((rO 5), .inl (cI, 4, .inl (aO 5))), ((rO 6), .inl (cI, 4, .inl (aO 6))), ((rO 7), .inl (cI, 4, .inl (aO 7))), ((rO 8), .inl (cI, 4, .inl (aO 8))), ((rO 9), .inl (cI, 4, .inl (aO 9))), ((rO 10), .inl (cI, 4, .inl (aO 10))), ((rO 11), .inl (cI, 4, .inl (aO 11))), ((rO 12), .inl (cI, 4, .inl (aO 12))), ((rO 19), .inl (cI, 96, .inl (aO 19))), ((rO 20), .inl (cI, 48, .inl (aO 20))), ((rO 21), .inl (cI, 48, .inl (aO 21))), ((rO 22), .inl (cI, 192, .inl (aO 22))), ((rO 26), .inl (cI, 160, .inl (aO 26))), ((rO 38), .inl (cI, 54, .inl (aO 38))), ((rO 39), .inl (cI, 9, .inl (aO 39))), ((rO 40), .inl (cI, 9, .inl (aO 40))), ((rO 44), .inl (cI, 12, .inl (aO 44)))] : va_W)) (t := []) (o0 := (F_X7_no oO aO r_1)) (fun o : Int32 × (Nat → Int32) => o.1) (fun o : Int32 × (Nat → Int32) => ([(adO, .inr (7, [.ref (rO 0), .ref (rO 1), .ref (rO 2), .ref (rO 3), .ref (rO 4), .ref (rO 5), .ref (rO 6), .ref (rO 7), .ref (rO 8), .ref (rO 9), .ref (rO 10), .ref (rO 11), .ref (rO 12), .int (oO 13), .int (oO 14), .int (oO 15), .int (oO 16), .int (oO 17), .int (oO 18), .ref (rO 19), .ref (rO 20), .ref (rO 21), .ref (rO 22), .int (oO 23), .int (oO 24), .int (oO 25), .ref (rO 26), .int (oO 27), .int (oO 28), .int (oO 29), .int (oO 30), .int (oO 31), .int (oO 32), .int (oO 33), .int (oO 34), .int (oO 35), .int (oO 36), .int (oO 37), .ref (rO 38), .ref (rO 39), .ref (rO 40), .int (oO 41), .int (oO 42), .int (oO 43), .ref (rO 44), .int (oO 45)])), ((rO 0), .inl (cI, 7, .inl o.2)), ((rO 1), .inl (cI, 8, .inl (aO 1))), ((rO 2), .inl (cI, 8, .inl (aO 2))), ((rO 3), .inl (cI, 8, .inl (aO 3))), ((rO 4), .inl (cI, 8, .inl (aO 4))), ((rO 5), .inl (cI, 4, .inl (aO 5))), ((rO 6), .inl (cI, 4, .inl (aO 6))), ((rO 7), .inl (cI, 4, .inl (aO 7))), ((rO 8), .inl (cI, 4, .inl (aO 8))), ((rO 9), .inl (cI, 4, .inl (aO 9))), ((rO 10), .inl (cI, 4, .inl (aO 10))), ((rO 11), .inl (cI, 4, .inl (aO 11))), ((rO 12), .inl (cI, 4, .inl (aO 12))), ((rO 19), .inl (cI, 96, .inl (aO 19))), ((rO 20), .inl (cI, 48, .inl (aO 20))), ((rO 21), .inl (cI, 48, .inl (aO 21))), ((rO 22), .inl (cI, 192, .inl (aO 22))), ((rO 26), .inl (cI, 160, .inl (aO 26))), ((rO 38), .inl (cI, 54, .inl (aO 38))), ((rO 39), .inl (cI, 9, .inl (aO 39))), ((rO 40), .inl (cI, 9, .inl (aO 40))), ((rO 44), .inl (cI, 12, .inl (aO 44)))] : va_W)) (fun o : Int32 × (Nat → Int32) => ([(adO, .inr (7, [.ref (rO 0), .ref (rO 1), .ref (rO 2), .ref (rO 3), .ref (rO 4), .ref (rO 5), .ref (rO 6), .ref (rO 7), .ref (rO 8), .ref (rO 9), .ref (rO 10), .ref (rO 11), .ref (rO 12), .int (oO 13), .int (oO 14), .int (oO 15), .int (oO 16), .int (oO 17), .int (oO 18), .ref (rO 19), .ref (rO 20), .ref (rO 21), .ref (rO 22), .int (oO 23), .int (oO 24), .int (oO 25), .ref (rO 26), .int (oO 27), .int (oO 28), .int (oO 29), .int (oO 30), .int (oO 31), .int (oO 32), .int (oO 33), .int (oO 34), .int (oO 35), .int (oO 36), .int (oO 37), .ref (rO 38), .ref (rO 39), .ref (rO 40), .int (oO 41), .int (oO 42), .int (oO 43), .ref (rO 44), .int (oO 45)])), ((rO 0), .inl (cI, 7, .inl o.2)), ((rO 1), .inl (cI, 8, .inl (aO 1))), ((rO 2), .inl (cI, 8, .inl (aO 2))), ((rO 3), .inl (cI, 8, .inl (aO 3))), ((rO 4), .inl (cI, 8, .inl (aO 4))), ((rO 5), .inl (cI, 4, .inl (aO 5))), ((rO 6), .inl (cI, 4, .inl (aO 6))), ((rO 7), .inl (cI, 4, .inl (aO 7))), ((rO 8), .inl (cI, 4, .inl (aO 8))), ((rO 9), .inl (cI, 4, .inl (aO 9))), ((rO 10), .inl (cI, 4, .inl (aO 10))), ((rO 11), .inl (cI, 4, .inl (aO 11))), ((rO 12), .inl (cI, 4, .inl (aO 12))), ((rO 19), .inl (cI, 96, .inl (aO 19))), ((rO 20), .inl (cI, 48, .inl (aO 20))), ((rO 21), .inl (cI, 48, .inl (aO 21))), ((rO 22), .inl (cI, 192, .inl (aO 22))), ((rO 26), .inl (cI, 160, .inl (aO 26))), ((rO 38), .inl (cI, 54, .inl (aO 38))), ((rO 39), .inl (cI, 9, .inl (aO 39))), ((rO 40), .inl (cI, 9, .inl (aO 40))), ((rO 44), .inl (cI, 12, .inl (aO 44)))] : va_W)) [0, 1, 2, 3, 4, 5, 6, 7, 8, 9, 10, 11, 12, 13, 14, 15, 16, 17, 18, 19, 20, 21, 22] [] (va_runV (As := [.int r_1]) (rest := []) ⟨hx, hb, hml, hown, hts⟩ (c_X7_no l D cI cL adO rO oO aO r_1 (show -7 < r_1.toInt ∧ r_1.toInt ≤ 0 from by first | assumption | decide | (have l0 : (0 : Int32).toInt = 0 := rfl; have l1 : (1 : Int32).toInt = 1 := rfl; have l23 : (23 : Int32).toInt = 23 := rfl; have l96 : (96 : Int32).toInt = 96 := rfl; have l255 : (255 : Int32).toInt = 255 := rfl; have qc_2 := i_eq c_2; have qsc_2 : (0 : Int32).toInt ≤ p0.toInt ∧ p0.toInt ≤ (255 : Int32).toInt := (by have h9 := sem_X7_bound_z er_1 c_2; exact h9); have qc_7 := x_ne c_7; have qc_8 := x_ne c_8; have qsc_8 : r_1.toInt = -4 ∨ r_1.toInt = -6 := (by have h9 := sem_X7_bound_n er_1 c_8; exact h9); omega)) _) (cwV 1 hts (gv_ok (fun _ h => w_in h) wd_163 wd_160 wd_161 wd_162 wd_5) rfl rfl rfl (by decide +kernel) ⟨Nat.le_of_ble_eq_true rfl, Nat.le_of_ble_eq_true rfl⟩) (x_pv hN hK hP hD [0, 1, 2, 3, 4, 5, 6, 7, 8, 9, 10, 11, 12, 13, 14, 15, 16, 17, 18, 19, 20, 21, 22] rfl rfl (ci := 7) (q0 := 0) rfl rfl) rfl rfl hl.1 rfl (lv_room (Nat.le_of_ble_eq_true rfl)) dX7_feed_31 ⟨Nat.zero_le _, Nat.zero_le _⟩) hP hD hS hA rfl (fun _ => rfl) (fun _ => rfl) [] rfl (fun _ => rfl) rfl (fun o_10 r_11 H locs eo_10 er_11 hP hD hS => ?_)
        have hP : va_P D vwCl [(adO, .inr (7, [.ref (rO 0), .ref (rO 1), .ref (rO 2), .ref (rO 3), .ref (rO 4), .ref (rO 5), .ref (rO 6), .ref (rO 7), .ref (rO 8), .ref (rO 9), .ref (rO 10), .ref (rO 11), .ref (rO 12), .int (oO 13), .int (oO 14), .int (oO 15), .int (oO 16), .int (oO 17), .int (oO 18), .ref (rO 19), .ref (rO 20), .ref (rO 21), .ref (rO 22), .int (oO 23), .int (oO 24), .int (oO 25), .ref (rO 26), .int (oO 27), .int (oO 28), .int (oO 29), .int (oO 30), .int (oO 31), .int (oO 32), .int (oO 33), .int (oO 34), .int (oO 35), .int (oO 36), .int (oO 37), .ref (rO 38), .ref (rO 39), .ref (rO 40), .int (oO 41), .int (oO 42), .int (oO 43), .ref (rO 44), .int (oO 45)])), ((rO 0), .inl (cI, 7, .inl o_10.2)), ((rO 1), .inl (cI, 8, .inl (aO 1))), ((rO 2), .inl (cI, 8, .inl (aO 2))), ((rO 3), .inl (cI, 8, .inl (aO 3))), ((rO 4), .inl (cI, 8, .inl (aO 4))), ((rO 5), .inl (cI, 4, .inl (aO 5))), ((rO 6), .inl (cI, 4, .inl (aO 6))), ((rO 7), .inl (cI, 4, .inl (aO 7))), ((rO 8), .inl (cI, 4, .inl (aO 8))), ((rO 9), .inl (cI, 4, .inl (aO 9))), ((rO 10), .inl (cI, 4, .inl (aO 10))), ((rO 11), .inl (cI, 4, .inl (aO 11))), ((rO 12), .inl (cI, 4, .inl (aO 12))), ((rO 19), .inl (cI, 96, .inl (aO 19))), ((rO 20), .inl (cI, 48, .inl (aO 20))), ((rO 21), .inl (cI, 48, .inl (aO 21))), ((rO 22), .inl (cI, 192, .inl (aO 22))), ((rO 26), .inl (cI, 160, .inl (aO 26))), ((rO 38), .inl (cI, 54, .inl (aO 38))), ((rO 39), .inl (cI, 9, .inl (aO 39))), ((rO 40), .inl (cI, 9, .inl (aO 40))), ((rO 44), .inl (cI, 12, .inl (aO 44)))] _ := hP
        have hD : va_D A [(adO, .inr (7, [.ref (rO 0), .ref (rO 1), .ref (rO 2), .ref (rO 3), .ref (rO 4), .ref (rO 5), .ref (rO 6), .ref (rO 7), .ref (rO 8), .ref (rO 9), .ref (rO 10), .ref (rO 11), .ref (rO 12), .int (oO 13), .int (oO 14), .int (oO 15), .int (oO 16), .int (oO 17), .int (oO 18), .ref (rO 19), .ref (rO 20), .ref (rO 21), .ref (rO 22), .int (oO 23), .int (oO 24), .int (oO 25), .ref (rO 26), .int (oO 27), .int (oO 28), .int (oO 29), .int (oO 30), .int (oO 31), .int (oO 32), .int (oO 33), .int (oO 34), .int (oO 35), .int (oO 36), .int (oO 37), .ref (rO 38), .ref (rO 39), .ref (rO 40), .int (oO 41), .int (oO 42), .int (oO 43), .ref (rO 44), .int (oO 45)])), ((rO 0), .inl (cI, 7, .inl o_10.2)), ((rO 1), .inl (cI, 8, .inl (aO 1))), ((rO 2), .inl (cI, 8, .inl (aO 2))), ((rO 3), .inl (cI, 8, .inl (aO 3))), ((rO 4), .inl (cI, 8, .inl (aO 4))), ((rO 5), .inl (cI, 4, .inl (aO 5))), ((rO 6), .inl (cI, 4, .inl (aO 6))), ((rO 7), .inl (cI, 4, .inl (aO 7))), ((rO 8), .inl (cI, 4, .inl (aO 8))), ((rO 9), .inl (cI, 4, .inl (aO 9))), ((rO 10), .inl (cI, 4, .inl (aO 10))), ((rO 11), .inl (cI, 4, .inl (aO 11))), ((rO 12), .inl (cI, 4, .inl (aO 12))), ((rO 19), .inl (cI, 96, .inl (aO 19))), ((rO 20), .inl (cI, 48, .inl (aO 20))), ((rO 21), .inl (cI, 48, .inl (aO 21))), ((rO 22), .inl (cI, 192, .inl (aO 22))), ((rO 26), .inl (cI, 160, .inl (aO 26))), ((rO 38), .inl (cI, 54, .inl (aO 38))), ((rO 39), .inl (cI, 9, .inl (aO 39))), ((rO 40), .inl (cI, 9, .inl (aO 40))), ((rO 44), .inl (cI, 12, .inl (aO 44)))] := hD
        have hF1 : F_X7_feed oO aO p0 = (r_11, (oO 23), o_10.2, (aO 19)) := (eX7_feed_4 oO aO p0 r_1 o_10 r_11 er_1 er_11 eo_10 c_2 c_7 c_8)
        exact xi_ret hx hb hr hlocks hP hS (congrArg (fun o : Int32 × Int32 × (Nat → Int32) × (Nat → Int32) => ([(adO, .inr (7, [.ref (rO 0), .ref (rO 1), .ref (rO 2), .ref (rO 3), .ref (rO 4), .ref (rO 5), .ref (rO 6), .ref (rO 7), .ref (rO 8), .ref (rO 9), .ref (rO 10), .ref (rO 11), .ref (rO 12), .int (oO 13), .int (oO 14), .int (oO 15), .int (oO 16), .int (oO 17), .int (oO 18), .ref (rO 19), .ref (rO 20), .ref (rO 21), .ref (rO 22), .int o.2.1, .int (oO 24), .int (oO 25), .ref (rO 26), .int (oO 27), .int (oO 28), .int (oO 29), .int (oO 30), .int (oO 31), .int (oO 32), .int (oO 33), .int (oO 34), .int (oO 35), .int (oO 36), .int (oO 37), .ref (rO 38), .ref (rO 39), .ref (rO 40), .int (oO 41), .int (oO 42), .int (oO 43), .ref (rO 44), .int (oO 45)])), ((rO 0), .inl (cI, 7, .inl o.2.2.1)), ((rO 1), .inl (cI, 8, .inl (aO 1))), ((rO 2), .inl (cI, 8, .inl (aO 2))), ((rO 3), .inl (cI, 8, .inl (aO 3))), ((rO 4), .inl (cI, 8, .inl (aO 4))), ((rO 5), .inl (cI, 4, .inl (aO 5))), ((rO 6), .inl (cI, 4, .inl (aO 6))), ((rO 7), .inl (cI, 4, .inl (aO 7))), ((rO 8), .inl (cI, 4, .inl (aO 8))), ((rO 9), .inl (cI, 4, .inl (aO 9))), ((rO 10), .inl (cI, 4, .inl (aO 10))), ((rO 11), .inl (cI, 4, .inl (aO 11))), ((rO 12), .inl (cI, 4, .inl (aO 12))), ((rO 19), .inl (cI, 96, .inl o.2.2.2)), ((rO 20), .inl (cI, 48, .inl (aO 20))), ((rO 21), .inl (cI, 48, .inl (aO 21))), ((rO 22), .inl (cI, 192, .inl (aO 22))), ((rO 26), .inl (cI, 160, .inl (aO 26))), ((rO 38), .inl (cI, 54, .inl (aO 38))), ((rO 39), .inl (cI, 9, .inl (aO 39))), ((rO 40), .inl (cI, 9, .inl (aO 40))), ((rO 44), .inl (cI, 12, .inl (aO 44)))] : va_W)) hF1).symm (congrArg (fun o : Int32 × Int32 × (Nat → Int32) × (Nat → Int32) => o.1) hF1).symm dX7_feed_34
    · refine lv_bipush (v := (-6)) hx hb dX7_feed_22 (by decide) ?_
      refine lv_istore_n (lv' := [(2, .int (-6)), (0, .ref adO), (1, .int p0)]) hx hb dX7_feed_24 rfl hl (by decide) rfl (fun ls hl => ?_)
      refine lv_iload_n hx hb dX7_feed_25 rfl (lv_at hl 0 rfl) ?_
      refine lv_if_eq (tgt := 35) hx hb dX7_feed_26 (by decide) (fun c9 => absurd c9 (by decide)) (fun _ => ?_)
      refine lv_aload_n hx hb dX7_feed_29 rfl (lv_at hl 1 rfl) ?_
      refine lv_iload_n hx hb dX7_feed_30 rfl (lv_at hl 0 rfl) ?_
      refine x_wi2 (a := ([(adO, .inr (7, [.ref (rO 0), .ref (rO 1), .ref (rO 2), .ref (rO 3), .ref (rO 4), .ref (rO 5), .ref (rO 6), .ref (rO 7), .ref (rO 8), .ref (rO 9), .ref (rO 10), .ref (rO 11), .ref (rO 12), .int (oO 13), .int (oO 14), .int (oO 15), .int (oO 16), .int (oO 17), .int (oO 18), .ref (rO 19), .ref (rO 20), .ref (rO 21), .ref (rO 22), .int (oO 23), .int (oO 24), .int (oO 25), .ref (rO 26), .int (oO 27), .int (oO 28), .int (oO 29), .int (oO 30), .int (oO 31), .int (oO 32), .int (oO 33), .int (oO 34), .int (oO 35), .int (oO 36), .int (oO 37), .ref (rO 38), .ref (rO 39), .ref (rO 40), .int (oO 41), .int (oO 42), .int (oO 43), .ref (rO 44), .int (oO 45)])), ((rO 0), .inl (cI, 7, .inl (aO 0))), ((rO 1), .inl (cI, 8, .inl (aO 1))), ((rO 2), .inl (cI, 8, .inl (aO 2))), ((rO 3), .inl (cI, 8, .inl (aO 3))), ((rO 4), .inl (cI, 8, .inl (aO 4))), ((rO 5), .inl (cI, 4, .inl (aO 5))), ((rO 6), .inl (cI, 4, .inl (aO 6))), ((rO 7), .inl (cI, 4, .inl (aO 7))), ((rO 8), .inl (cI, 4, .inl (aO 8))), ((rO 9), .inl (cI, 4, .inl (aO 9))), ((rO 10), .inl (cI, 4, .inl (aO 10))), ((rO 11), .inl (cI, 4, .inl (aO 11))), ((rO 12), .inl (cI, 4, .inl (aO 12))), ((rO 19), .inl (cI, 96, .inl (aO 19))), ((rO 20), .inl (cI, 48, .inl (aO 20))), ((rO 21), .inl (cI, 48, .inl (aO 21))), ((rO 22), .inl (cI, 192, .inl (aO 22))), ((rO 26), .inl (cI, 160, .inl (aO 26))), ((rO 38), .inl (cI, 54, .inl (aO 38))), ((rO 39), .inl (cI, 9, .inl (aO 39))), ((rO 40), .inl (cI, 9, .inl (aO 40))), ((rO 44), .inl (cI, 12, .inl (aO 44)))] : va_W)) (t := []) (o0 := (F_X7_no oO aO (-6))) (fun o : Int32 × (Nat → Int32) => o.1) (fun o : Int32 × (Nat → Int32) => ([(adO, .inr (7, [.ref (rO 0), .ref (rO 1), .ref (rO 2), .ref (rO 3), .ref (rO 4), .ref (rO 5), .ref (rO 6), .ref (rO 7), .ref (rO 8), .ref (rO 9), .ref (rO 10), .ref (rO 11), .ref (rO 12), .int (oO 13), .int (oO 14), .int (oO 15), .int (oO 16), .int (oO 17), .int (oO 18), .ref (rO 19), .ref (rO 20), .ref (rO 21), .ref (rO 22), .int (oO 23), .int (oO 24), .int (oO 25), .ref (rO 26), .int (oO 27), .int (oO 28), .int (oO 29), .int (oO 30), .int (oO 31), .int (oO 32), .int (oO 33), .int (oO 34), .int (oO 35), .int (oO 36), .int (oO 37), .ref (rO 38), .ref (rO 39), .ref (rO 40), .int (oO 41), .int (oO 42), .int (oO 43), .ref (rO 44), .int (oO 45)])), ((rO 0), .inl (cI, 7, .inl o.2)), ((rO 1), .inl (cI, 8, .inl (aO 1))), ((rO 2), .inl (cI, 8, .inl (aO 2))), ((rO 3), .inl (cI, 8, .inl (aO 3))), ((rO 4), .inl (cI, 8, .inl (aO 4))), ((rO 5), .inl (cI, 4, .inl (aO 5))), ((rO 6), .inl (cI, 4, .inl (aO 6))), ((rO 7), .inl (cI, 4, .inl (aO 7))), ((rO 8), .inl (cI, 4, .inl (aO 8))), ((rO 9), .inl (cI, 4, .inl (aO 9))), ((rO 10), .inl (cI, 4, .inl (aO 10))), ((rO 11), .inl (cI, 4, .inl (aO 11))), ((rO 12), .inl (cI, 4, .inl (aO 12))), ((rO 19), .inl (cI, 96, .inl (aO 19))), ((rO 20), .inl (cI, 48, .inl (aO 20))), ((rO 21), .inl (cI, 48, .inl (aO 21))), ((rO 22), .inl (cI, 192, .inl (aO 22))), ((rO 26), .inl (cI, 160, .inl (aO 26))), ((rO 38), .inl (cI, 54, .inl (aO 38))), ((rO 39), .inl (cI, 9, .inl (aO 39))), ((rO 40), .inl (cI, 9, .inl (aO 40))), ((rO 44), .inl (cI, 12, .inl (aO 44)))] : va_W)) (fun o : Int32 × (Nat → Int32) => ([(adO, .inr (7, [.ref (rO 0), .ref (rO 1), .ref (rO 2), .ref (rO 3), .ref (rO 4), .ref (rO 5), .ref (rO 6), .ref (rO 7), .ref (rO 8), .ref (rO 9), .ref (rO 10), .ref (rO 11), .ref (rO 12), .int (oO 13), .int (oO 14), .int (oO 15), .int (oO 16), .int (oO 17), .int (oO 18), .ref (rO 19), .ref (rO 20), .ref (rO 21), .ref (rO 22), .int (oO 23), .int (oO 24), .int (oO 25), .ref (rO 26), .int (oO 27), .int (oO 28), .int (oO 29), .int (oO 30), .int (oO 31), .int (oO 32), .int (oO 33), .int (oO 34), .int (oO 35), .int (oO 36), .int (oO 37), .ref (rO 38), .ref (rO 39), .ref (rO 40), .int (oO 41), .int (oO 42), .int (oO 43), .ref (rO 44), .int (oO 45)])), ((rO 0), .inl (cI, 7, .inl o.2)), ((rO 1), .inl (cI, 8, .inl (aO 1))), ((rO 2), .inl (cI, 8, .inl (aO 2))), ((rO 3), .inl (cI, 8, .inl (aO 3))), ((rO 4), .inl (cI, 8, .inl (aO 4))), ((rO 5), .inl (cI, 4, .inl (aO 5))), ((rO 6), .inl (cI, 4, .inl (aO 6))), ((rO 7), .inl (cI, 4, .inl (aO 7))), ((rO 8), .inl (cI, 4, .inl (aO 8))), ((rO 9), .inl (cI, 4, .inl (aO 9))), ((rO 10), .inl (cI, 4, .inl (aO 10))), ((rO 11), .inl (cI, 4, .inl (aO 11))), ((rO 12), .inl (cI, 4, .inl (aO 12))), ((rO 19), .inl (cI, 96, .inl (aO 19))), ((rO 20), .inl (cI, 48, .inl (aO 20))), ((rO 21), .inl (cI, 48, .inl (aO 21))), ((rO 22), .inl (cI, 192, .inl (aO 22))), ((rO 26), .inl (cI, 160, .inl (aO 26))), ((rO 38), .inl (cI, 54, .inl (aO 38))), ((rO 39), .inl (cI, 9, .inl (aO 39))), ((rO 40), .inl (cI, 9, .inl (aO 40))), ((rO 44), .inl (cI, 12, .inl (aO 44)))] : va_W)) [0, 1, 2, 3, 4, 5, 6, 7, 8, 9, 10, 11, 12, 13, 14, 15, 16, 17, 18, 19, 20, 21, 22] [] (va_runV (As := [.int (-6)]) (rest := []) ⟨hx, hb, hml, hown, hts⟩ (c_X7_no l D cI cL adO rO oO aO (-6) (show -7 < ((-6) : Int32).toInt ∧ ((-6) : Int32).toInt ≤ 0 from by first | assumption | decide | (have lm6 : ((-6) : Int32).toInt = -6 := rfl; have l0 : (0 : Int32).toInt = 0 := rfl; have l1 : (1 : Int32).toInt = 1 := rfl; have l23 : (23 : Int32).toInt = 23 := rfl; have l96 : (96 : Int32).toInt = 96 := rfl; have l255 : (255 : Int32).toInt = 255 := rfl; have qc_2 := i_eq c_2; have qsc_2 : (0 : Int32).toInt ≤ p0.toInt ∧ p0.toInt ≤ (255 : Int32).toInt := (by have h9 := sem_X7_bound_z er_1 c_2; exact h9); have qc_7 := i_eq c_7; omega)) _) (cwV 1 hts (gv_ok (fun _ h => w_in h) wd_163 wd_160 wd_161 wd_162 wd_5) rfl rfl rfl (by decide +kernel) ⟨Nat.le_of_ble_eq_true rfl, Nat.le_of_ble_eq_true rfl⟩) (x_pv hN hK hP hD [0, 1, 2, 3, 4, 5, 6, 7, 8, 9, 10, 11, 12, 13, 14, 15, 16, 17, 18, 19, 20, 21, 22] rfl rfl (ci := 7) (q0 := 0) rfl rfl) rfl rfl hl.1 rfl (lv_room (Nat.le_of_ble_eq_true rfl)) dX7_feed_31 ⟨Nat.zero_le _, Nat.zero_le _⟩) hP hD hS hA rfl (fun _ => rfl) (fun _ => rfl) [] rfl (fun _ => rfl) rfl (fun o_12 r_13 H locs eo_12 er_13 hP hD hS => ?_)
      have hP : va_P D vwCl [(adO, .inr (7, [.ref (rO 0), .ref (rO 1), .ref (rO 2), .ref (rO 3), .ref (rO 4), .ref (rO 5), .ref (rO 6), .ref (rO 7), .ref (rO 8), .ref (rO 9), .ref (rO 10), .ref (rO 11), .ref (rO 12), .int (oO 13), .int (oO 14), .int (oO 15), .int (oO 16), .int (oO 17), .int (oO 18), .ref (rO 19), .ref (rO 20), .ref (rO 21), .ref (rO 22), .int (oO 23), .int (oO 24), .int (oO 25), .ref (rO 26), .int (oO 27), .int (oO 28), .int (oO 29), .int (oO 30), .int (oO 31), .int (oO 32), .int (oO 33), .int (oO 34), .int (oO 35), .int (oO 36), .int (oO 37), .ref (rO 38), .ref (rO 39), .ref (rO 40), .int (oO 41), .int (oO 42), .int (oO 43), .ref (rO 44), .int (oO 45)])), ((rO 0), .inl (cI, 7, .inl o_12.2)), ((rO 1), .inl (cI, 8, .inl (aO 1))), ((rO 2), .inl (cI, 8, .inl (aO 2))), ((rO 3), .inl (cI, 8, .inl (aO 3))), ((rO 4), .inl (cI, 8, .inl (aO 4))), ((rO 5), .inl (cI, 4, .inl (aO 5))), ((rO 6), .inl (cI, 4, .inl (aO 6))), ((rO 7), .inl (cI, 4, .inl (aO 7))), ((rO 8), .inl (cI, 4, .inl (aO 8))), ((rO 9), .inl (cI, 4, .inl (aO 9))), ((rO 10), .inl (cI, 4, .inl (aO 10))), ((rO 11), .inl (cI, 4, .inl (aO 11))), ((rO 12), .inl (cI, 4, .inl (aO 12))), ((rO 19), .inl (cI, 96, .inl (aO 19))), ((rO 20), .inl (cI, 48, .inl (aO 20))), ((rO 21), .inl (cI, 48, .inl (aO 21))), ((rO 22), .inl (cI, 192, .inl (aO 22))), ((rO 26), .inl (cI, 160, .inl (aO 26))), ((rO 38), .inl (cI, 54, .inl (aO 38))), ((rO 39), .inl (cI, 9, .inl (aO 39))), ((rO 40), .inl (cI, 9, .inl (aO 40))), ((rO 44), .inl (cI, 12, .inl (aO 44)))] _ := hP
      have hD : va_D A [(adO, .inr (7, [.ref (rO 0), .ref (rO 1), .ref (rO 2), .ref (rO 3), .ref (rO 4), .ref (rO 5), .ref (rO 6), .ref (rO 7), .ref (rO 8), .ref (rO 9), .ref (rO 10), .ref (rO 11), .ref (rO 12), .int (oO 13), .int (oO 14), .int (oO 15), .int (oO 16), .int (oO 17), .int (oO 18), .ref (rO 19), .ref (rO 20), .ref (rO 21), .ref (rO 22), .int (oO 23), .int (oO 24), .int (oO 25), .ref (rO 26), .int (oO 27), .int (oO 28), .int (oO 29), .int (oO 30), .int (oO 31), .int (oO 32), .int (oO 33), .int (oO 34), .int (oO 35), .int (oO 36), .int (oO 37), .ref (rO 38), .ref (rO 39), .ref (rO 40), .int (oO 41), .int (oO 42), .int (oO 43), .ref (rO 44), .int (oO 45)])), ((rO 0), .inl (cI, 7, .inl o_12.2)), ((rO 1), .inl (cI, 8, .inl (aO 1))), ((rO 2), .inl (cI, 8, .inl (aO 2))), ((rO 3), .inl (cI, 8, .inl (aO 3))), ((rO 4), .inl (cI, 8, .inl (aO 4))), ((rO 5), .inl (cI, 4, .inl (aO 5))), ((rO 6), .inl (cI, 4, .inl (aO 6))), ((rO 7), .inl (cI, 4, .inl (aO 7))), ((rO 8), .inl (cI, 4, .inl (aO 8))), ((rO 9), .inl (cI, 4, .inl (aO 9))), ((rO 10), .inl (cI, 4, .inl (aO 10))), ((rO 11), .inl (cI, 4, .inl (aO 11))), ((rO 12), .inl (cI, 4, .inl (aO 12))), ((rO 19), .inl (cI, 96, .inl (aO 19))), ((rO 20), .inl (cI, 48, .inl (aO 20))), ((rO 21), .inl (cI, 48, .inl (aO 21))), ((rO 22), .inl (cI, 192, .inl (aO 22))), ((rO 26), .inl (cI, 160, .inl (aO 26))), ((rO 38), .inl (cI, 54, .inl (aO 38))), ((rO 39), .inl (cI, 9, .inl (aO 39))), ((rO 40), .inl (cI, 9, .inl (aO 40))), ((rO 44), .inl (cI, 12, .inl (aO 44)))] := hD
      have hF1 : F_X7_feed oO aO p0 = (r_13, (oO 23), o_12.2, (aO 19)) := (eX7_feed_5 oO aO p0 r_1 o_12 r_13 er_1 er_13 eo_12 c_2 c_7)
      exact xi_ret hx hb hr hlocks hP hS (congrArg (fun o : Int32 × Int32 × (Nat → Int32) × (Nat → Int32) => ([(adO, .inr (7, [.ref (rO 0), .ref (rO 1), .ref (rO 2), .ref (rO 3), .ref (rO 4), .ref (rO 5), .ref (rO 6), .ref (rO 7), .ref (rO 8), .ref (rO 9), .ref (rO 10), .ref (rO 11), .ref (rO 12), .int (oO 13), .int (oO 14), .int (oO 15), .int (oO 16), .int (oO 17), .int (oO 18), .ref (rO 19), .ref (rO 20), .ref (rO 21), .ref (rO 22), .int o.2.1, .int (oO 24), .int (oO 25), .ref (rO 26), .int (oO 27), .int (oO 28), .int (oO 29), .int (oO 30), .int (oO 31), .int (oO 32), .int (oO 33), .int (oO 34), .int (oO 35), .int (oO 36), .int (oO 37), .ref (rO 38), .ref (rO 39), .ref (rO 40), .int (oO 41), .int (oO 42), .int (oO 43), .ref (rO 44), .int (oO 45)])), ((rO 0), .inl (cI, 7, .inl o.2.2.1)), ((rO 1), .inl (cI, 8, .inl (aO 1))), ((rO 2), .inl (cI, 8, .inl (aO 2))), ((rO 3), .inl (cI, 8, .inl (aO 3))), ((rO 4), .inl (cI, 8, .inl (aO 4))), ((rO 5), .inl (cI, 4, .inl (aO 5))), ((rO 6), .inl (cI, 4, .inl (aO 6))), ((rO 7), .inl (cI, 4, .inl (aO 7))), ((rO 8), .inl (cI, 4, .inl (aO 8))), ((rO 9), .inl (cI, 4, .inl (aO 9))), ((rO 10), .inl (cI, 4, .inl (aO 10))), ((rO 11), .inl (cI, 4, .inl (aO 11))), ((rO 12), .inl (cI, 4, .inl (aO 12))), ((rO 19), .inl (cI, 96, .inl o.2.2.2)), ((rO 20), .inl (cI, 48, .inl (aO 20))), ((rO 21), .inl (cI, 48, .inl (aO 21))), ((rO 22), .inl (cI, 192, .inl (aO 22))), ((rO 26), .inl (cI, 160, .inl (aO 26))), ((rO 38), .inl (cI, 54, .inl (aO 38))), ((rO 39), .inl (cI, 9, .inl (aO 39))), ((rO 40), .inl (cI, 9, .inl (aO 40))), ((rO 44), .inl (cI, 12, .inl (aO 44)))] : va_W)) hF1).symm (congrArg (fun o : Int32 × Int32 × (Nat → Int32) × (Nat → Int32) => o.1) hF1).symm dX7_feed_34

noncomputable def F_X7_isFresh (oO : Nat → Int32) (aO : Nat → Nat → Int32) (p0 : Int32) : (Nat → Int32) × (Nat → Int32) × (Nat → Int32) × (Nat → Int32) × (Nat → Int32) :=
  ((upd (aO 8) p0.toNatClampNeg 0), (upd (aO 9) p0.toNatClampNeg 0), (upd (aO 10) p0.toNatClampNeg 0), (upd (aO 11) p0.toNatClampNeg 0), (upd (aO 12) p0.toNatClampNeg 0))
set_option maxHeartbeats 4000000 in
set_option maxRecDepth 100000 in
theorem c_X7_isFresh (l : Launch) (D : va_G) (cI cL : ClassId)   (adO : Nat) (rO : Nat → Nat) (oO : Nat → Int32) (aO : Nat → Nat → Int32) (p0 : Int32) (hk : 0 ≤ p0.toInt ∧ p0.toInt < 4) : Xv l yX7_isFresh (wm yX7_isFresh cX7_isFresh 2 none) (xR (0) (0)) D (tyA cI cL) [.ref adO, .int p0] [(adO, .inr (7, [.ref (rO 0), .ref (rO 1), .ref (rO 2), .ref (rO 3), .ref (rO 4), .ref (rO 5), .ref (rO 6), .ref (rO 7), .ref (rO 8), .ref (rO 9), .ref (rO 10), .ref (rO 11), .ref (rO 12), .int (oO 13), .int (oO 14), .int (oO 15), .int (oO 16), .int (oO 17), .int (oO 18), .ref (rO 19), .ref (rO 20), .ref (rO 21), .ref (rO 22), .int (oO 23), .int (oO 24), .int (oO 25), .ref (rO 26), .int (oO 27), .int (oO 28), .int (oO 29), .int (oO 30), .int (oO 31), .int (oO 32), .int (oO 33), .int (oO 34), .int (oO 35), .int (oO 36), .int (oO 37), .ref (rO 38), .ref (rO 39), .ref (rO 40), .int (oO 41), .int (oO 42), .int (oO 43), .ref (rO 44), .int (oO 45)])), ((rO 0), .inl (cI, 7, .inl (aO 0))), ((rO 1), .inl (cI, 8, .inl (aO 1))), ((rO 2), .inl (cI, 8, .inl (aO 2))), ((rO 3), .inl (cI, 8, .inl (aO 3))), ((rO 4), .inl (cI, 8, .inl (aO 4))), ((rO 5), .inl (cI, 4, .inl (aO 5))), ((rO 6), .inl (cI, 4, .inl (aO 6))), ((rO 7), .inl (cI, 4, .inl (aO 7))), ((rO 8), .inl (cI, 4, .inl (aO 8))), ((rO 9), .inl (cI, 4, .inl (aO 9))), ((rO 10), .inl (cI, 4, .inl (aO 10))), ((rO 11), .inl (cI, 4, .inl (aO 11))), ((rO 12), .inl (cI, 4, .inl (aO 12))), ((rO 19), .inl (cI, 96, .inl (aO 19))), ((rO 20), .inl (cI, 48, .inl (aO 20))), ((rO 21), .inl (cI, 48, .inl (aO 21))), ((rO 22), .inl (cI, 192, .inl (aO 22))), ((rO 26), .inl (cI, 160, .inl (aO 26))), ((rO 38), .inl (cI, 54, .inl (aO 38))), ((rO 39), .inl (cI, 9, .inl (aO 39))), ((rO 40), .inl (cI, 9, .inl (aO 40))), ((rO 44), .inl (cI, 12, .inl (aO 44)))] [(adO, .inr (7, [.ref (rO 0), .ref (rO 1), .ref (rO 2), .ref (rO 3), .ref (rO 4), .ref (rO 5), .ref (rO 6), .ref (rO 7), .ref (rO 8), .ref (rO 9), .ref (rO 10), .ref (rO 11), .ref (rO 12), .int (oO 13), .int (oO 14), .int (oO 15), .int (oO 16), .int (oO 17), .int (oO 18), .ref (rO 19), .ref (rO 20), .ref (rO 21), .ref (rO 22), .int (oO 23), .int (oO 24), .int (oO 25), .ref (rO 26), .int (oO 27), .int (oO 28), .int (oO 29), .int (oO 30), .int (oO 31), .int (oO 32), .int (oO 33), .int (oO 34), .int (oO 35), .int (oO 36), .int (oO 37), .ref (rO 38), .ref (rO 39), .ref (rO 40), .int (oO 41), .int (oO 42), .int (oO 43), .ref (rO 44), .int (oO 45)])), ((rO 0), .inl (cI, 7, .inl (aO 0))), ((rO 1), .inl (cI, 8, .inl (aO 1))), ((rO 2), .inl (cI, 8, .inl (aO 2))), ((rO 3), .inl (cI, 8, .inl (aO 3))), ((rO 4), .inl (cI, 8, .inl (aO 4))), ((rO 5), .inl (cI, 4, .inl (aO 5))), ((rO 6), .inl (cI, 4, .inl (aO 6))), ((rO 7), .inl (cI, 4, .inl (aO 7))), ((rO 8), .inl (cI, 4, .inl (F_X7_isFresh oO aO p0).1)), ((rO 9), .inl (cI, 4, .inl (F_X7_isFresh oO aO p0).2.1)), ((rO 10), .inl (cI, 4, .inl (F_X7_isFresh oO aO p0).2.2.1)), ((rO 11), .inl (cI, 4, .inl (F_X7_isFresh oO aO p0).2.2.2.1)), ((rO 12), .inl (cI, 4, .inl (F_X7_isFresh oO aO p0).2.2.2.2)), ((rO 19), .inl (cI, 96, .inl (aO 19))), ((rO 20), .inl (cI, 48, .inl (aO 20))), ((rO 21), .inl (cI, 48, .inl (aO 21))), ((rO 22), .inl (cI, 192, .inl (aO 22))), ((rO 26), .inl (cI, 160, .inl (aO 26))), ((rO 38), .inl (cI, 54, .inl (aO 38))), ((rO 39), .inl (cI, 9, .inl (aO 39))), ((rO 40), .inl (cI, 9, .inl (aO 40))), ((rO 44), .inl (cI, 12, .inl (aO 44)))] := by
  intro sz
  refine x_in (cc := cX7_isFresh) (maxL := 2) (ret := none) (by decide) rfl (Nat.le_of_ble_eq_true rfl) (fun p e s m below meth c A ls hfix hr hlocks hN hK hP hAe hD hA hS hl => ?_)
  obtain ⟨hx, hb, hml, hown, hts⟩ := hfix
  rw [← hAe]
  clear hAe
  have hown : s.vm.findClass RX7 = some m.cls := hown
  have htL : ∀ w ∈ wsL_law, w.before ([.ref adO, .int p0] : List Value).toArray s = true := fun w h => hts w (List.mem_cons_of_mem _ h)
  have hl : lv_has ls 2 [(0, .ref adO), (1, .int p0)] := hl
  refine lv_aload_n hx hb dX7_isFresh_0 rfl (lv_at hl 0 rfl) ?_
  refine va_get (D := D) (ci := 7) (v := .ref (rO 8)) (C := RX7) (T := TX7) (N := 46) hx hb hts (fun _ h => w_in (inlX7 _ h)) hown hK hP 0 rfl rfl 8 (by decide) (htL _ wd_113) (fun _ h9 => h9) rfl dX7_isFresh_1 ?_
  refine lv_iload_n hx hb dX7_isFresh_4 rfl (lv_at hl 1 rfl) ?_
  refine lv_iconst (v := 0) hx hb dX7_isFresh_5 (by decide) ?_
  refine va_iast hx hb hK hP hD hS 9 0 rfl rfl (vp_in_iff.mpr (by have l0 : (0 : Int32).toInt = 0 := rfl; have l1 : (1 : Int32).toInt = 1 := rfl; omega)) dX7_isFresh_6 (fun H locs hP hD hS => ?_)
  have hP : va_P D vwCl [(adO, .inr (7, [.ref (rO 0), .ref (rO 1), .ref (rO 2), .ref (rO 3), .ref (rO 4), .ref (rO 5), .ref (rO 6), .ref (rO 7), .ref (rO 8), .ref (rO 9), .ref (rO 10), .ref (rO 11), .ref (rO 12), .int (oO 13), .int (oO 14), .int (oO 15), .int (oO 16), .int (oO 17), .int (oO 18), .ref (rO 19), .ref (rO 20), .ref (rO 21), .ref (rO 22), .int (oO 23), .int (oO 24), .int (oO 25), .ref (rO 26), .int (oO 27), .int (oO 28), .int (oO 29), .int (oO 30), .int (oO 31), .int (oO 32), .int (oO 33), .int (oO 34), .int (oO 35), .int (oO 36), .int (oO 37), .ref (rO 38), .ref (rO 39), .ref (rO 40), .int (oO 41), .int (oO 42), .int (oO 43), .ref (rO 44), .int (oO 45)])), ((rO 0), .inl (cI, 7, .inl (aO 0))), ((rO 1), .inl (cI, 8, .inl (aO 1))), ((rO 2), .inl (cI, 8, .inl (aO 2))), ((rO 3), .inl (cI, 8, .inl (aO 3))), ((rO 4), .inl (cI, 8, .inl (aO 4))), ((rO 5), .inl (cI, 4, .inl (aO 5))), ((rO 6), .inl (cI, 4, .inl (aO 6))), ((rO 7), .inl (cI, 4, .inl (aO 7))), ((rO 8), .inl (cI, 4, .inl (upd (aO 8) p0.toNatClampNeg 0))), ((rO 9), .inl (cI, 4, .inl (aO 9))), ((rO 10), .inl (cI, 4, .inl (aO 10))), ((rO 11), .inl (cI, 4, .inl (aO 11))), ((rO 12), .inl (cI, 4, .inl (aO 12))), ((rO 19), .inl (cI, 96, .inl (aO 19))), ((rO 20), .inl (cI, 48, .inl (aO 20))), ((rO 21), .inl (cI, 48, .inl (aO 21))), ((rO 22), .inl (cI, 192, .inl (aO 22))), ((rO 26), .inl (cI, 160, .inl (aO 26))), ((rO 38), .inl (cI, 54, .inl (aO 38))), ((rO 39), .inl (cI, 9, .inl (aO 39))), ((rO 40), .inl (cI, 9, .inl (aO 40))), ((rO 44), .inl (cI, 12, .inl (aO 44)))] _ := hP
  have hD : va_D A [(adO, .inr (7, [.ref (rO 0), .ref (rO 1), .ref (rO 2), .ref (rO 3), .ref (rO 4), .ref (rO 5), .ref (rO 6), .ref (rO 7), .ref (rO 8), .ref (rO 9), .ref (rO 10), .ref (rO 11), .ref (rO 12), .int (oO 13), .int (oO 14), .int (oO 15), .int (oO 16), .int (oO 17), .int (oO 18), .ref (rO 19), .ref (rO 20), .ref (rO 21), .ref (rO 22), .int (oO 23), .int (oO 24), .int (oO 25), .ref (rO 26), .int (oO 27), .int (oO 28), .int (oO 29), .int (oO 30), .int (oO 31), .int (oO 32), .int (oO 33), .int (oO 34), .int (oO 35), .int (oO 36), .int (oO 37), .ref (rO 38), .ref (rO 39), .ref (rO 40), .int (oO 41), .int (oO 42), .int (oO 43), .ref (rO 44), .int (oO 45)])), ((rO 0), .inl (cI, 7, .inl (aO 0))), ((rO 1), .inl (cI, 8, .inl (aO 1))), ((rO 2), .inl (cI, 8, .inl (aO 2))), ((rO 3), .inl (cI, 8, .inl (aO 3))), ((rO 4), .inl (cI, 8, .inl (aO 4))), ((rO 5), .inl (cI, 4, .inl (aO 5))), ((rO 6), .inl (cI, 4, .inl (aO 6))), ((rO 7), .inl (cI, 4, .inl (aO 7))), ((rO 8), .inl (cI, 4, .inl (upd (aO 8) p0.toNatClampNeg 0))), ((rO 9), .inl (cI, 4, .inl (aO 9))), ((rO 10), .inl (cI, 4, .inl (aO 10))), ((rO 11), .inl (cI, 4, .inl (aO 11))), ((rO 12), .inl (cI, 4, .inl (aO 12))), ((rO 19), .inl (cI, 96, .inl (aO 19))), ((rO 20), .inl (cI, 48, .inl (aO 20))), ((rO 21), .inl (cI, 48, .inl (aO 21))), ((rO 22), .inl (cI, 192, .inl (aO 22))), ((rO 26), .inl (cI, 160, .inl (aO 26))), ((rO 38), .inl (cI, 54, .inl (aO 38))), ((rO 39), .inl (cI, 9, .inl (aO 39))), ((rO 40), .inl (cI, 9, .inl (aO 40))), ((rO 44), .inl (cI, 12, .inl (aO 44)))] := hD
  refine lv_aload_n hx hb dX7_isFresh_7 rfl (lv_at hl 0 rfl) ?_
  refine va_get (D := D) (ci := 7) (v := .ref (rO 9)) (C := RX7) (T := TX7) (N := 46) hx hb hts (fun _ h => w_in (inlX7 _ h)) hown hK hP 0 rfl rfl 9 (by decide) (htL _ wd_114) (fun _ h9 => h9) rfl dX7_isFresh_8 ?_
  refine lv_iload_n hx hb dX7_isFresh_11 rfl (lv_at hl 1 rfl) ?_
  refine lv_iconst (v := 0) hx hb dX7_isFresh_12 (by decide) ?_
  refine va_iast hx hb hK hP hD hS 10 0 rfl rfl (vp_in_iff.mpr (by have l0 : (0 : Int32).toInt = 0 := rfl; have l1 : (1 : Int32).toInt = 1 := rfl; omega)) dX7_isFresh_13 (fun H locs hP hD hS => ?_)
  have hP : va_P D vwCl [(adO, .inr (7, [.ref (rO 0), .ref (rO 1), .ref (rO 2), .ref (rO 3), .ref (rO 4), .ref (rO 5), .ref (rO 6), .ref (rO 7), .ref (rO 8), .ref (rO 9), .ref (rO 10), .ref (rO 11), .ref (rO 12), .int (oO 13), .int (oO 14), .int (oO 15), .int (oO 16), .int (oO 17), .int (oO 18), .ref (rO 19), .ref (rO 20), .ref (rO 21), .ref (rO 22), .int (oO 23), .int (oO 24), .int (oO 25), .ref (rO 26), .int (oO 27), .int (oO 28), .int (oO 29), .int (oO 30), .int (oO 31), .int (oO 32), .int (oO 33), .int (oO 34), .int (oO 35), .int (oO 36), .int (oO 37), .ref (rO 38), .ref (rO 39), .ref (rO 40), .int (oO 41), .int (oO 42), .int (oO 43), .ref (rO 44), .int (oO 45)])), ((rO 0), .inl (cI, 7, .inl (aO 0))), ((rO 1), .inl (cI, 8, .inl (aO 1))), ((rO 2), .inl (cI, 8, .inl (aO 2))), ((rO 3), .inl (cI, 8, .inl (aO 3))), ((rO 4), .inl (cI, 8, .inl (aO 4))), ((rO 5), .inl (cI, 4, .inl (aO 5))), ((rO 6), .inl (cI, 4, .inl (aO 6))), ((rO 7), .inl (cI, 4, .inl (aO 7))), ((rO 8), .inl (cI, 4, .inl (upd (aO 8) p0.toNatClampNeg 0))), ((rO 9), .inl (cI, 4, .inl (upd (aO 9) p0.toNatClampNeg 0))), ((rO 10), .inl (cI, 4, .inl (aO 10))), ((rO 11), .inl (cI, 4, .inl (aO 11))), ((rO 12), .inl (cI, 4, .inl (aO 12))), ((rO 19), .inl (cI, 96, .inl (aO 19))), ((rO 20), .inl (cI, 48, .inl (aO 20))), ((rO 21), .inl (cI, 48, .inl (aO 21))), ((rO 22), .inl (cI, 192, .inl (aO 22))), ((rO 26), .inl (cI, 160, .inl (aO 26))), ((rO 38), .inl (cI, 54, .inl (aO 38))), ((rO 39), .inl (cI, 9, .inl (aO 39))), ((rO 40), .inl (cI, 9, .inl (aO 40))), ((rO 44), .inl (cI, 12, .inl (aO 44)))] _ := hP
  have hD : va_D A [(adO, .inr (7, [.ref (rO 0), .ref (rO 1), .ref (rO 2), .ref (rO 3), .ref (rO 4), .ref (rO 5), .ref (rO 6), .ref (rO 7), .ref (rO 8), .ref (rO 9), .ref (rO 10), .ref (rO 11), .ref (rO 12), .int (oO 13), .int (oO 14), .int (oO 15), .int (oO 16), .int (oO 17), .int (oO 18), .ref (rO 19), .ref (rO 20), .ref (rO 21), .ref (rO 22), .int (oO 23), .int (oO 24), .int (oO 25), .ref (rO 26), .int (oO 27), .int (oO 28), .int (oO 29), .int (oO 30), .int (oO 31), .int (oO 32), .int (oO 33), .int (oO 34), .int (oO 35), .int (oO 36), .int (oO 37), .ref (rO 38), .ref (rO 39), .ref (rO 40), .int (oO 41), .int (oO 42), .int (oO 43), .ref (rO 44), .int (oO 45)])), ((rO 0), .inl (cI, 7, .inl (aO 0))), ((rO 1), .inl (cI, 8, .inl (aO 1))), ((rO 2), .inl (cI, 8, .inl (aO 2))), ((rO 3), .inl (cI, 8, .inl (aO 3))), ((rO 4), .inl (cI, 8, .inl (aO 4))), ((rO 5), .inl (cI, 4, .inl (aO 5))), ((rO 6), .inl (cI, 4, .inl (aO 6))), ((rO 7), .inl (cI, 4, .inl (aO 7))), ((rO 8), .inl (cI, 4, .inl (upd (aO 8) p0.toNatClampNeg 0))), ((rO 9), .inl (cI, 4, .inl (upd (aO 9) p0.toNatClampNeg 0))), ((rO 10), .inl (cI, 4, .inl (aO 10))), ((rO 11), .inl (cI, 4, .inl (aO 11))), ((rO 12), .inl (cI, 4, .inl (aO 12))), ((rO 19), .inl (cI, 96, .inl (aO 19))), ((rO 20), .inl (cI, 48, .inl (aO 20))), ((rO 21), .inl (cI, 48, .inl (aO 21))), ((rO 22), .inl (cI, 192, .inl (aO 22))), ((rO 26), .inl (cI, 160, .inl (aO 26))), ((rO 38), .inl (cI, 54, .inl (aO 38))), ((rO 39), .inl (cI, 9, .inl (aO 39))), ((rO 40), .inl (cI, 9, .inl (aO 40))), ((rO 44), .inl (cI, 12, .inl (aO 44)))] := hD
  refine lv_aload_n hx hb dX7_isFresh_14 rfl (lv_at hl 0 rfl) ?_
  refine va_get (D := D) (ci := 7) (v := .ref (rO 10)) (C := RX7) (T := TX7) (N := 46) hx hb hts (fun _ h => w_in (inlX7 _ h)) hown hK hP 0 rfl rfl 10 (by decide) (htL _ wd_115) (fun _ h9 => h9) rfl dX7_isFresh_15 ?_
  refine lv_iload_n hx hb dX7_isFresh_18 rfl (lv_at hl 1 rfl) ?_
  refine lv_iconst (v := 0) hx hb dX7_isFresh_19 (by decide) ?_
  refine va_iast hx hb hK hP hD hS 11 0 rfl rfl (vp_in_iff.mpr (by have l0 : (0 : Int32).toInt = 0 := rfl; have l1 : (1 : Int32).toInt = 1 := rfl; omega)) dX7_isFresh_20 (fun H locs hP hD hS => ?_)
  have hP : va_P D vwCl [(adO, .inr (7, [.ref (rO 0), .ref (rO 1), .ref (rO 2), .ref (rO 3), .ref (rO 4), .ref (rO 5), .ref (rO 6), .ref (rO 7), .ref (rO 8), .ref (rO 9), .ref (rO 10), .ref (rO 11), .ref (rO 12), .int (oO 13), .int (oO 14), .int (oO 15), .int (oO 16), .int (oO 17), .int (oO 18), .ref (rO 19), .ref (rO 20), .ref (rO 21), .ref (rO 22), .int (oO 23), .int (oO 24), .int (oO 25), .ref (rO 26), .int (oO 27), .int (oO 28), .int (oO 29), .int (oO 30), .int (oO 31), .int (oO 32), .int (oO 33), .int (oO 34), .int (oO 35), .int (oO 36), .int (oO 37), .ref (rO 38), .ref (rO 39), .ref (rO 40), .int (oO 41), .int (oO 42), .int (oO 43), .ref (rO 44), .int (oO 45)])), ((rO 0), .inl (cI, 7, .inl (aO 0))), ((rO 1), .inl (cI, 8, .inl (aO 1))), ((rO 2), .inl (cI, 8, .inl (aO 2))), ((rO 3), .inl (cI, 8, .inl (aO 3))), ((rO 4), .inl (cI, 8, .inl (aO 4))), ((rO 5), .inl (cI, 4, .inl (aO 5))), ((rO 6), .inl (cI, 4, .inl (aO 6))), ((rO 7), .inl (cI, 4, .inl (aO 7))), ((rO 8), .inl (cI, 4, .inl (upd (aO 8) p0.toNatClampNeg 0))), ((rO 9), .inl (cI, 4, .inl (upd (aO 9) p0.toNatClampNeg 0))), ((rO 10), .inl (cI, 4, .inl (upd (aO 10) p0.toNatClampNeg 0))), ((rO 11), .inl (cI, 4, .inl (aO 11))), ((rO 12), .inl (cI, 4, .inl (aO 12))), ((rO 19), .inl (cI, 96, .inl (aO 19))), ((rO 20), .inl (cI, 48, .inl (aO 20))), ((rO 21), .inl (cI, 48, .inl (aO 21))), ((rO 22), .inl (cI, 192, .inl (aO 22))), ((rO 26), .inl (cI, 160, .inl (aO 26))), ((rO 38), .inl (cI, 54, .inl (aO 38))), ((rO 39), .inl (cI, 9, .inl (aO 39))), ((rO 40), .inl (cI, 9, .inl (aO 40))), ((rO 44), .inl (cI, 12, .inl (aO 44)))] _ := hP
  have hD : va_D A [(adO, .inr (7, [.ref (rO 0), .ref (rO 1), .ref (rO 2), .ref (rO 3), .ref (rO 4), .ref (rO 5), .ref (rO 6), .ref (rO 7), .ref (rO 8), .ref (rO 9), .ref (rO 10), .ref (rO 11), .ref (rO 12), .int (oO 13), .int (oO 14), .int (oO 15), .int (oO 16), .int (oO 17), .int (oO 18), .ref (rO 19), .ref (rO 20), .ref (rO 21), .ref (rO 22), .int (oO 23), .int (oO 24), .int (oO 25), .ref (rO 26), .int (oO 27), .int (oO 28), .int (oO 29), .int (oO 30), .int (oO 31), .int (oO 32), .int (oO 33), .int (oO 34), .int (oO 35), .int (oO 36), .int (oO 37), .ref (rO 38), .ref (rO 39), .ref (rO 40), .int (oO 41), .int (oO 42), .int (oO 43), .ref (rO 44), .int (oO 45)])), ((rO 0), .inl (cI, 7, .inl (aO 0))), ((rO 1), .inl (cI, 8, .inl (aO 1))), ((rO 2), .inl (cI, 8, .inl (aO 2))), ((rO 3), .inl (cI, 8, .inl (aO 3))), ((rO 4), .inl (cI, 8, .inl (aO 4))), ((rO 5), .inl (cI, 4, .inl (aO 5))), ((rO 6), .inl (cI, 4, .inl (aO 6))), ((rO 7), .inl (cI, 4, .inl (aO 7))), ((rO 8), .inl (cI, 4, .inl (upd (aO 8) p0.toNatClampNeg 0))), ((rO 9), .inl (cI, 4, .inl (upd (aO 9) p0.toNatClampNeg 0))), ((rO 10), .inl (cI, 4, .inl (upd (aO 10) p0.toNatClampNeg 0))), ((rO 11), .inl (cI, 4, .inl (aO 11))), ((rO 12), .inl (cI, 4, .inl (aO 12))), ((rO 19), .inl (cI, 96, .inl (aO 19))), ((rO 20), .inl (cI, 48, .inl (aO 20))), ((rO 21), .inl (cI, 48, .inl (aO 21))), ((rO 22), .inl (cI, 192, .inl (aO 22))), ((rO 26), .inl (cI, 160, .inl (aO 26))), ((rO 38), .inl (cI, 54, .inl (aO 38))), ((rO 39), .inl (cI, 9, .inl (aO 39))), ((rO 40), .inl (cI, 9, .inl (aO 40))), ((rO 44), .inl (cI, 12, .inl (aO 44)))] := hD
  refine lv_aload_n hx hb dX7_isFresh_21 rfl (lv_at hl 0 rfl) ?_
  refine va_get (D := D) (ci := 7) (v := .ref (rO 11)) (C := RX7) (T := TX7) (N := 46) hx hb hts (fun _ h => w_in (inlX7 _ h)) hown hK hP 0 rfl rfl 11 (by decide) (htL _ wd_116) (fun _ h9 => h9) rfl dX7_isFresh_22 ?_
  refine lv_iload_n hx hb dX7_isFresh_25 rfl (lv_at hl 1 rfl) ?_
  refine lv_iconst (v := 0) hx hb dX7_isFresh_26 (by decide) ?_
  refine va_iast hx hb hK hP hD hS 12 0 rfl rfl (vp_in_iff.mpr (by have l0 : (0 : Int32).toInt = 0 := rfl; have l1 : (1 : Int32).toInt = 1 := rfl; omega)) dX7_isFresh_27 (fun H locs hP hD hS => ?_)
  have hP : va_P D vwCl [(adO, .inr (7, [.ref (rO 0), .ref (rO 1), .ref (rO 2), .ref (rO 3), .ref (rO 4), .ref (rO 5), .ref (rO 6), .ref (rO 7), .ref (rO 8), .ref (rO 9), .ref (rO 10), .ref (rO 11), .ref (rO 12), .int (oO 13), .int (oO 14), .int (oO 15), .int (oO 16), .int (oO 17), .int (oO 18), .ref (rO 19), .ref (rO 20), .ref (rO 21), .ref (rO 22), .int (oO 23), .int (oO 24), .int (oO 25), .ref (rO 26), .int (oO 27), .int (oO 28), .int (oO 29), .int (oO 30), .int (oO 31), .int (oO 32), .int (oO 33), .int (oO 34), .int (oO 35), .int (oO 36), .int (oO 37), .ref (rO 38), .ref (rO 39), .ref (rO 40), .int (oO 41), .int (oO 42), .int (oO 43), .ref (rO 44), .int (oO 45)])), ((rO 0), .inl (cI, 7, .inl (aO 0))), ((rO 1), .inl (cI, 8, .inl (aO 1))), ((rO 2), .inl (cI, 8, .inl (aO 2))), ((rO 3), .inl (cI, 8, .inl (aO 3))), ((rO 4), .inl (cI, 8, .inl (aO 4))), ((rO 5), .inl (cI, 4, .inl (aO 5))), ((rO 6), .inl (cI, 4, .inl (aO 6))), ((rO 7), .inl (cI, 4, .inl (aO 7))), ((rO 8), .inl (cI, 4, .inl (upd (aO 8) p0.toNatClampNeg 0))), ((rO 9), .inl (cI, 4, .inl (upd (aO 9) p0.toNatClampNeg 0))), ((rO 10), .inl (cI, 4, .inl (upd (aO 10) p0.toNatClampNeg 0))), ((rO 11), .inl (cI, 4, .inl (upd (aO 11) p0.toNatClampNeg 0))), ((rO 12), .inl (cI, 4, .inl (aO 12))), ((rO 19), .inl (cI, 96, .inl (aO 19))), ((rO 20), .inl (cI, 48, .inl (aO 20))), ((rO 21), .inl (cI, 48, .inl (aO 21))), ((rO 22), .inl (cI, 192, .inl (aO 22))), ((rO 26), .inl (cI, 160, .inl (aO 26))), ((rO 38), .inl (cI, 54, .inl (aO 38))), ((rO 39), .inl (cI, 9, .inl (aO 39))), ((rO 40), .inl (cI, 9, .inl (aO 40))), ((rO 44), .inl (cI, 12, .inl (aO 44)))] _ := hP
  have hD : va_D A [(adO, .inr (7, [.ref (rO 0), .ref (rO 1), .ref (rO 2), .ref (rO 3), .ref (rO 4), .ref (rO 5), .ref (rO 6), .ref (rO 7), .ref (rO 8), .ref (rO 9), .ref (rO 10), .ref (rO 11), .ref (rO 12), .int (oO 13), .int (oO 14), .int (oO 15), .int (oO 16), .int (oO 17), .int (oO 18), .ref (rO 19), .ref (rO 20), .ref (rO 21), .ref (rO 22), .int (oO 23), .int (oO 24), .int (oO 25), .ref (rO 26), .int (oO 27), .int (oO 28), .int (oO 29), .int (oO 30), .int (oO 31), .int (oO 32), .int (oO 33), .int (oO 34), .int (oO 35), .int (oO 36), .int (oO 37), .ref (rO 38), .ref (rO 39), .ref (rO 40), .int (oO 41), .int (oO 42), .int (oO 43), .ref (rO 44), .int (oO 45)])), ((rO 0), .inl (cI, 7, .inl (aO 0))), ((rO 1), .inl (cI, 8, .inl (aO 1))), ((rO 2), .inl (cI, 8, .inl (aO 2))), ((rO 3), .inl (cI, 8, .inl (aO 3))), ((rO 4), .inl (cI, 8, .inl (aO 4))), ((rO 5), .inl (cI, 4, .inl (aO 5))), ((rO 6), .inl (cI, 4, .inl (aO 6))), ((rO 7), .inl (cI, 4, .inl (aO 7))), ((rO 8), .inl (cI, 4, .inl (upd (aO 8) p0.toNatClampNeg 0))), ((rO 9), .inl (cI, 4, .inl (upd (aO 9) p0.toNatClampNeg 0))), ((rO 10), .inl (cI, 4, .inl (upd (aO 10) p0.toNatClampNeg 0))), ((rO 11), .inl (cI, 4, .inl (upd (aO 11) p0.toNatClampNeg 0))), ((rO 12), .inl (cI, 4, .inl (aO 12))), ((rO 19), .inl (cI, 96, .inl (aO 19))), ((rO 20), .inl (cI, 48, .inl (aO 20))), ((rO 21), .inl (cI, 48, .inl (aO 21))), ((rO 22), .inl (cI, 192, .inl (aO 22))), ((rO 26), .inl (cI, 160, .inl (aO 26))), ((rO 38), .inl (cI, 54, .inl (aO 38))), ((rO 39), .inl (cI, 9, .inl (aO 39))), ((rO 40), .inl (cI, 9, .inl (aO 40))), ((rO 44), .inl (cI, 12, .inl (aO 44)))] := hD
  refine lv_aload_n hx hb dX7_isFresh_28 rfl (lv_at hl 0 rfl) ?_
  refine va_get (D := D) (ci := 7) (v := .ref (rO 12)) (C := RX7) (T := TX7) (N := 46) hx hb hts (fun _ h => w_in (inlX7 _ h)) hown hK hP 0 rfl rfl 12 (by decide) (htL _ wd_117) (fun _ h9 => h9) rfl dX7_isFresh_29 ?_
  refine lv_iload_n hx hb dX7_isFresh_32 rfl (lv_at hl 1 rfl) ?_
  refine lv_iconst (v := 0) hx hb dX7_isFresh_33 (by decide) ?_
  refine va_iast hx hb hK hP hD hS 13 0 rfl rfl (vp_in_iff.mpr (by have l0 : (0 : Int32).toInt = 0 := rfl; have l1 : (1 : Int32).toInt = 1 := rfl; omega)) dX7_isFresh_34 (fun H locs hP hD hS => ?_)
  have hP : va_P D vwCl [(adO, .inr (7, [.ref (rO 0), .ref (rO 1), .ref (rO 2), .ref (rO 3), .ref (rO 4), .ref (rO 5), .ref (rO 6), .ref (rO 7), .ref (rO 8), .ref (rO 9), .ref (rO 10), .ref (rO 11), .ref (rO 12), .int (oO 13), .int (oO 14), .int (oO 15), .int (oO 16), .int (oO 17), .int (oO 18), .ref (rO 19), .ref (rO 20), .ref (rO 21), .ref (rO 22), .int (oO 23), .int (oO 24), .int (oO 25), .ref (rO 26), .int (oO 27), .int (oO 28), .int (oO 29), .int (oO 30), .int (oO 31), .int (oO 32), .int (oO 33), .int (oO 34), .int (oO 35), .int (oO 36), .int (oO 37), .ref (rO 38), .ref (rO 39), .ref (rO 40), .int (oO 41), .int (oO 42), .int (oO 43), .ref (rO 44), .int (oO 45)])), ((rO 0), .inl (cI, 7, .inl (aO 0))), ((rO 1), .inl (cI, 8, .inl (aO 1))), ((rO 2), .inl (cI, 8, .inl (aO 2))), ((rO 3), .inl (cI, 8, .inl (aO 3))), ((rO 4), .inl (cI, 8, .inl (aO 4))), ((rO 5), .inl (cI, 4, .inl (aO 5))), ((rO 6), .inl (cI, 4, .inl (aO 6))), ((rO 7), .inl (cI, 4, .inl (aO 7))), ((rO 8), .inl (cI, 4, .inl (upd (aO 8) p0.toNatClampNeg 0))), ((rO 9), .inl (cI, 4, .inl (upd (aO 9) p0.toNatClampNeg 0))), ((rO 10), .inl (cI, 4, .inl (upd (aO 10) p0.toNatClampNeg 0))), ((rO 11), .inl (cI, 4, .inl (upd (aO 11) p0.toNatClampNeg 0))), ((rO 12), .inl (cI, 4, .inl (upd (aO 12) p0.toNatClampNeg 0))), ((rO 19), .inl (cI, 96, .inl (aO 19))), ((rO 20), .inl (cI, 48, .inl (aO 20))), ((rO 21), .inl (cI, 48, .inl (aO 21))), ((rO 22), .inl (cI, 192, .inl (aO 22))), ((rO 26), .inl (cI, 160, .inl (aO 26))), ((rO 38), .inl (cI, 54, .inl (aO 38))), ((rO 39), .inl (cI, 9, .inl (aO 39))), ((rO 40), .inl (cI, 9, .inl (aO 40))), ((rO 44), .inl (cI, 12, .inl (aO 44)))] _ := hP
  have hD : va_D A [(adO, .inr (7, [.ref (rO 0), .ref (rO 1), .ref (rO 2), .ref (rO 3), .ref (rO 4), .ref (rO 5), .ref (rO 6), .ref (rO 7), .ref (rO 8), .ref (rO 9), .ref (rO 10), .ref (rO 11), .ref (rO 12), .int (oO 13), .int (oO 14), .int (oO 15), .int (oO 16), .int (oO 17), .int (oO 18), .ref (rO 19), .ref (rO 20), .ref (rO 21), .ref (rO 22), .int (oO 23), .int (oO 24), .int (oO 25), .ref (rO 26), .int (oO 27), .int (oO 28), .int (oO 29), .int (oO 30), .int (oO 31), .int (oO 32), .int (oO 33), .int (oO 34), .int (oO 35), .int (oO 36), .int (oO 37), .ref (rO 38), .ref (rO 39), .ref (rO 40), .int (oO 41), .int (oO 42), .int (oO 43), .ref (rO 44), .int (oO 45)])), ((rO 0), .inl (cI, 7, .inl (aO 0))), ((rO 1), .inl (cI, 8, .inl (aO 1))), ((rO 2), .inl (cI, 8, .inl (aO 2))), ((rO 3), .inl (cI, 8, .inl (aO 3))), ((rO 4), .inl (cI, 8, .inl (aO 4))), ((rO 5), .inl (cI, 4, .inl (aO 5))), ((rO 6), .inl (cI, 4, .inl (aO 6))), ((rO 7), .inl (cI, 4, .inl (aO 7))), ((rO 8), .inl (cI, 4, .inl (upd (aO 8) p0.toNatClampNeg 0))), ((rO 9), .inl (cI, 4, .inl (upd (aO 9) p0.toNatClampNeg 0))), ((rO 10), .inl (cI, 4, .inl (upd (aO 10) p0.toNatClampNeg 0))), ((rO 11), .inl (cI, 4, .inl (upd (aO 11) p0.toNatClampNeg 0))), ((rO 12), .inl (cI, 4, .inl (upd (aO 12) p0.toNatClampNeg 0))), ((rO 19), .inl (cI, 96, .inl (aO 19))), ((rO 20), .inl (cI, 48, .inl (aO 20))), ((rO 21), .inl (cI, 48, .inl (aO 21))), ((rO 22), .inl (cI, 192, .inl (aO 22))), ((rO 26), .inl (cI, 160, .inl (aO 26))), ((rO 38), .inl (cI, 54, .inl (aO 38))), ((rO 39), .inl (cI, 9, .inl (aO 39))), ((rO 40), .inl (cI, 9, .inl (aO 40))), ((rO 44), .inl (cI, 12, .inl (aO 44)))] := hD
  have hF1 : F_X7_isFresh oO aO p0 = ((upd (aO 8) p0.toNatClampNeg 0), (upd (aO 9) p0.toNatClampNeg 0), (upd (aO 10) p0.toNatClampNeg 0), (upd (aO 11) p0.toNatClampNeg 0), (upd (aO 12) p0.toNatClampNeg 0)) := rfl
  exact xv_ret hx hb hr hlocks hP hS (congrArg (fun o : (Nat → Int32) × (Nat → Int32) × (Nat → Int32) × (Nat → Int32) × (Nat → Int32) => ([(adO, .inr (7, [.ref (rO 0), .ref (rO 1), .ref (rO 2), .ref (rO 3), .ref (rO 4), .ref (rO 5), .ref (rO 6), .ref (rO 7), .ref (rO 8), .ref (rO 9), .ref (rO 10), .ref (rO 11), .ref (rO 12), .int (oO 13), .int (oO 14), .int (oO 15), .int (oO 16), .int (oO 17), .int (oO 18), .ref (rO 19), .ref (rO 20), .ref (rO 21), .ref (rO 22), .int (oO 23), .int (oO 24), .int (oO 25), .ref (rO 26), .int (oO 27), .int (oO 28), .int (oO 29), .int (oO 30), .int (oO 31), .int (oO 32), .int (oO 33), .int (oO 34), .int (oO 35), .int (oO 36), .int (oO 37), .ref (rO 38), .ref (rO 39), .ref (rO 40), .int (oO 41), .int (oO 42), .int (oO 43), .ref (rO 44), .int (oO 45)])), ((rO 0), .inl (cI, 7, .inl (aO 0))), ((rO 1), .inl (cI, 8, .inl (aO 1))), ((rO 2), .inl (cI, 8, .inl (aO 2))), ((rO 3), .inl (cI, 8, .inl (aO 3))), ((rO 4), .inl (cI, 8, .inl (aO 4))), ((rO 5), .inl (cI, 4, .inl (aO 5))), ((rO 6), .inl (cI, 4, .inl (aO 6))), ((rO 7), .inl (cI, 4, .inl (aO 7))), ((rO 8), .inl (cI, 4, .inl o.1)), ((rO 9), .inl (cI, 4, .inl o.2.1)), ((rO 10), .inl (cI, 4, .inl o.2.2.1)), ((rO 11), .inl (cI, 4, .inl o.2.2.2.1)), ((rO 12), .inl (cI, 4, .inl o.2.2.2.2)), ((rO 19), .inl (cI, 96, .inl (aO 19))), ((rO 20), .inl (cI, 48, .inl (aO 20))), ((rO 21), .inl (cI, 48, .inl (aO 21))), ((rO 22), .inl (cI, 192, .inl (aO 22))), ((rO 26), .inl (cI, 160, .inl (aO 26))), ((rO 38), .inl (cI, 54, .inl (aO 38))), ((rO 39), .inl (cI, 9, .inl (aO 39))), ((rO 40), .inl (cI, 9, .inl (aO 40))), ((rO 44), .inl (cI, 12, .inl (aO 44)))] : va_W)) hF1).symm dX7_isFresh_35

noncomputable def F_X7_ahead_L4 (oO : Nat → Int32) (aO : Nat → Nat → Int32) (p0 : Int32) : Nat → Int32 → Int32 → Int32
  | 0, _, _ => default
  | n + 1, v2a, v3a =>
  if p0 ≤ v3a then
  (v2a)
  else
  (let x_2 : Int32 := ((aO 1) v3a.toNatClampNeg)
  let x_3 : Int32 := ((aO 1) p0.toNatClampNeg)
  if x_2 = x_3 then
  (let x_7 : Int32 := (v2a + 1)
  let x_8 : Int32 := v3a + 1
  F_X7_ahead_L4 oO aO p0 n x_7 x_8)
  else
  (let x_5 : Int32 := (v2a + 0)
  let x_6 : Int32 := v3a + 1
  F_X7_ahead_L4 oO aO p0 n x_5 x_6))
noncomputable def F_X7_ahead (oO : Nat → Int32) (aO : Nat → Nat → Int32) (p0 : Int32) : Int32 :=
  F_X7_ahead_L4 oO aO p0 (((p0.toInt - (0 : Int32).toInt).toNat) + 1) 0 0
set_option maxRecDepth 100000 in
theorem eX7_ahead_1 (oO : Nat → Int32) (aO : Nat → Nat → Int32) (p0 : Int32) (nf : Nat) (v2a : Int32) (v3a : Int32) (c_1 : p0 ≤ v3a) : F_X7_ahead_L4 oO aO p0 (nf + 1) v2a v3a = v2a := by exact (if_pos c_1).trans (rfl)
set_option maxRecDepth 100000 in
theorem eX7_ahead_2 (oO : Nat → Int32) (aO : Nat → Nat → Int32) (p0 : Int32) (nf : Nat) (v2a : Int32) (v3a : Int32) (x_2 : Int32) (x_3 : Int32) (x_5 : Int32) (x_6 : Int32) (ex_2 : x_2 = ((aO 1) v3a.toNatClampNeg)) (ex_3 : x_3 = ((aO 1) p0.toNatClampNeg)) (ex_5 : x_5 = (v2a + 0)) (ex_6 : x_6 = v3a + 1) (c_1 : ¬ (p0 ≤ v3a)) (c_4 : ¬ (x_2 = x_3)) : F_X7_ahead_L4 oO aO p0 (nf + 1) v2a v3a = F_X7_ahead_L4 oO aO p0 nf x_5 x_6 := by subst ex_2 ex_3 ex_5 ex_6; exact (if_neg c_1).trans ((if_neg c_4).trans (rfl))
set_option maxRecDepth 100000 in
theorem eX7_ahead_3 (oO : Nat → Int32) (aO : Nat → Nat → Int32) (p0 : Int32) (nf : Nat) (v2a : Int32) (v3a : Int32) (x_2 : Int32) (x_3 : Int32) (x_7 : Int32) (x_8 : Int32) (ex_2 : x_2 = ((aO 1) v3a.toNatClampNeg)) (ex_3 : x_3 = ((aO 1) p0.toNatClampNeg)) (ex_7 : x_7 = (v2a + 1)) (ex_8 : x_8 = v3a + 1) (c_1 : ¬ (p0 ≤ v3a)) (c_4 : x_2 = x_3) : F_X7_ahead_L4 oO aO p0 (nf + 1) v2a v3a = F_X7_ahead_L4 oO aO p0 nf x_7 x_8 := by subst ex_2 ex_3 ex_7 ex_8; exact (if_neg c_1).trans ((if_pos c_4).trans (rfl))
set_option maxHeartbeats 4000000 in
set_option maxRecDepth 100000 in
theorem c_X7_ahead (l : Launch) (D : va_G) (cI cL : ClassId)   (adO : Nat) (rO : Nat → Nat) (oO : Nat → Int32) (aO : Nat → Nat → Int32) (p0 : Int32) (hl : 0 ≤ p0.toInt ∧ p0.toInt < 8) : Xi l yX7_ahead (wm yX7_ahead cX7_ahead 4 (some .int)) (xR (0) (0)) D (tyA cI cL) [.ref adO, .int p0] [(adO, .inr (7, [.ref (rO 0), .ref (rO 1), .ref (rO 2), .ref (rO 3), .ref (rO 4), .ref (rO 5), .ref (rO 6), .ref (rO 7), .ref (rO 8), .ref (rO 9), .ref (rO 10), .ref (rO 11), .ref (rO 12), .int (oO 13), .int (oO 14), .int (oO 15), .int (oO 16), .int (oO 17), .int (oO 18), .ref (rO 19), .ref (rO 20), .ref (rO 21), .ref (rO 22), .int (oO 23), .int (oO 24), .int (oO 25), .ref (rO 26), .int (oO 27), .int (oO 28), .int (oO 29), .int (oO 30), .int (oO 31), .int (oO 32), .int (oO 33), .int (oO 34), .int (oO 35), .int (oO 36), .int (oO 37), .ref (rO 38), .ref (rO 39), .ref (rO 40), .int (oO 41), .int (oO 42), .int (oO 43), .ref (rO 44), .int (oO 45)])), ((rO 0), .inl (cI, 7, .inl (aO 0))), ((rO 1), .inl (cI, 8, .inl (aO 1))), ((rO 2), .inl (cI, 8, .inl (aO 2))), ((rO 3), .inl (cI, 8, .inl (aO 3))), ((rO 4), .inl (cI, 8, .inl (aO 4))), ((rO 5), .inl (cI, 4, .inl (aO 5))), ((rO 6), .inl (cI, 4, .inl (aO 6))), ((rO 7), .inl (cI, 4, .inl (aO 7))), ((rO 8), .inl (cI, 4, .inl (aO 8))), ((rO 9), .inl (cI, 4, .inl (aO 9))), ((rO 10), .inl (cI, 4, .inl (aO 10))), ((rO 11), .inl (cI, 4, .inl (aO 11))), ((rO 12), .inl (cI, 4, .inl (aO 12))), ((rO 19), .inl (cI, 96, .inl (aO 19))), ((rO 20), .inl (cI, 48, .inl (aO 20))), ((rO 21), .inl (cI, 48, .inl (aO 21))), ((rO 22), .inl (cI, 192, .inl (aO 22))), ((rO 26), .inl (cI, 160, .inl (aO 26))), ((rO 38), .inl (cI, 54, .inl (aO 38))), ((rO 39), .inl (cI, 9, .inl (aO 39))), ((rO 40), .inl (cI, 9, .inl (aO 40))), ((rO 44), .inl (cI, 12, .inl (aO 44)))] [(adO, .inr (7, [.ref (rO 0), .ref (rO 1), .ref (rO 2), .ref (rO 3), .ref (rO 4), .ref (rO 5), .ref (rO 6), .ref (rO 7), .ref (rO 8), .ref (rO 9), .ref (rO 10), .ref (rO 11), .ref (rO 12), .int (oO 13), .int (oO 14), .int (oO 15), .int (oO 16), .int (oO 17), .int (oO 18), .ref (rO 19), .ref (rO 20), .ref (rO 21), .ref (rO 22), .int (oO 23), .int (oO 24), .int (oO 25), .ref (rO 26), .int (oO 27), .int (oO 28), .int (oO 29), .int (oO 30), .int (oO 31), .int (oO 32), .int (oO 33), .int (oO 34), .int (oO 35), .int (oO 36), .int (oO 37), .ref (rO 38), .ref (rO 39), .ref (rO 40), .int (oO 41), .int (oO 42), .int (oO 43), .ref (rO 44), .int (oO 45)])), ((rO 0), .inl (cI, 7, .inl (aO 0))), ((rO 1), .inl (cI, 8, .inl (aO 1))), ((rO 2), .inl (cI, 8, .inl (aO 2))), ((rO 3), .inl (cI, 8, .inl (aO 3))), ((rO 4), .inl (cI, 8, .inl (aO 4))), ((rO 5), .inl (cI, 4, .inl (aO 5))), ((rO 6), .inl (cI, 4, .inl (aO 6))), ((rO 7), .inl (cI, 4, .inl (aO 7))), ((rO 8), .inl (cI, 4, .inl (aO 8))), ((rO 9), .inl (cI, 4, .inl (aO 9))), ((rO 10), .inl (cI, 4, .inl (aO 10))), ((rO 11), .inl (cI, 4, .inl (aO 11))), ((rO 12), .inl (cI, 4, .inl (aO 12))), ((rO 19), .inl (cI, 96, .inl (aO 19))), ((rO 20), .inl (cI, 48, .inl (aO 20))), ((rO 21), .inl (cI, 48, .inl (aO 21))), ((rO 22), .inl (cI, 192, .inl (aO 22))), ((rO 26), .inl (cI, 160, .inl (aO 26))), ((rO 38), .inl (cI, 54, .inl (aO 38))), ((rO 39), .inl (cI, 9, .inl (aO 39))), ((rO 40), .inl (cI, 9, .inl (aO 40))), ((rO 44), .inl (cI, 12, .inl (aO 44)))] (F_X7_ahead oO aO p0) := by
  intro sz
  refine x_in (cc := cX7_ahead) (maxL := 4) (ret := (some .int)) (by decide) rfl (Nat.le_of_ble_eq_true rfl) (fun p e s m below meth c A ls hfix hr hlocks hN hK hP hAe hD hA hS hl => ?_)
  obtain ⟨hx, hb, hml, hown, hts⟩ := hfix
  rw [← hAe]
  clear hAe
  have hown : s.vm.findClass RX7 = some m.cls := hown
  have htL : ∀ w ∈ wsL_law, w.before ([.ref adO, .int p0] : List Value).toArray s = true := fun w h => hts w (List.mem_cons_of_mem _ h)
  have hl : lv_has ls 4 [(0, .ref adO), (1, .int p0)] := hl
  refine lv_iconst (v := 0) hx hb dX7_ahead_0 (by decide) ?_
  refine lv_istore_n (lv' := [(2, .int 0), (0, .ref adO), (1, .int p0)]) hx hb dX7_ahead_1 rfl hl (by decide) rfl (fun ls hl => ?_)
  refine lv_iconst (v := 0) hx hb dX7_ahead_2 (by decide) ?_
  refine lv_istore_n (lv' := [(3, .int 0), (2, .int 0), (0, .ref adO), (1, .int p0)]) hx hb dX7_ahead_3 rfl hl (by decide) rfl (fun ls hl => ?_)
  have loop : ∀ (nf : Nat) (v2a : Int32) (v3a : Int32) (H : Heap) (locs : List Loc) (ls : Array Slot), 0 ≤ v3a.toInt → (p0.toInt - v3a.toInt).toNat < nf → F_X7_ahead oO aO p0 = F_X7_ahead_L4 oO aO p0 nf v2a v3a → va_P D vwCl [(adO, .inr (7, [.ref (rO 0), .ref (rO 1), .ref (rO 2), .ref (rO 3), .ref (rO 4), .ref (rO 5), .ref (rO 6), .ref (rO 7), .ref (rO 8), .ref (rO 9), .ref (rO 10), .ref (rO 11), .ref (rO 12), .int (oO 13), .int (oO 14), .int (oO 15), .int (oO 16), .int (oO 17), .int (oO 18), .ref (rO 19), .ref (rO 20), .ref (rO 21), .ref (rO 22), .int (oO 23), .int (oO 24), .int (oO 25), .ref (rO 26), .int (oO 27), .int (oO 28), .int (oO 29), .int (oO 30), .int (oO 31), .int (oO 32), .int (oO 33), .int (oO 34), .int (oO 35), .int (oO 36), .int (oO 37), .ref (rO 38), .ref (rO 39), .ref (rO 40), .int (oO 41), .int (oO 42), .int (oO 43), .ref (rO 44), .int (oO 45)])), ((rO 0), .inl (cI, 7, .inl (aO 0))), ((rO 1), .inl (cI, 8, .inl (aO 1))), ((rO 2), .inl (cI, 8, .inl (aO 2))), ((rO 3), .inl (cI, 8, .inl (aO 3))), ((rO 4), .inl (cI, 8, .inl (aO 4))), ((rO 5), .inl (cI, 4, .inl (aO 5))), ((rO 6), .inl (cI, 4, .inl (aO 6))), ((rO 7), .inl (cI, 4, .inl (aO 7))), ((rO 8), .inl (cI, 4, .inl (aO 8))), ((rO 9), .inl (cI, 4, .inl (aO 9))), ((rO 10), .inl (cI, 4, .inl (aO 10))), ((rO 11), .inl (cI, 4, .inl (aO 11))), ((rO 12), .inl (cI, 4, .inl (aO 12))), ((rO 19), .inl (cI, 96, .inl (aO 19))), ((rO 20), .inl (cI, 48, .inl (aO 20))), ((rO 21), .inl (cI, 48, .inl (aO 21))), ((rO 22), .inl (cI, 192, .inl (aO 22))), ((rO 26), .inl (cI, 160, .inl (aO 26))), ((rO 38), .inl (cI, 54, .inl (aO 38))), ((rO 39), .inl (cI, 9, .inl (aO 39))), ((rO 40), .inl (cI, 9, .inl (aO 40))), ((rO 44), .inl (cI, 12, .inl (aO 44)))] H → va_D A [(adO, .inr (7, [.ref (rO 0), .ref (rO 1), .ref (rO 2), .ref (rO 3), .ref (rO 4), .ref (rO 5), .ref (rO 6), .ref (rO 7), .ref (rO 8), .ref (rO 9), .ref (rO 10), .ref (rO 11), .ref (rO 12), .int (oO 13), .int (oO 14), .int (oO 15), .int (oO 16), .int (oO 17), .int (oO 18), .ref (rO 19), .ref (rO 20), .ref (rO 21), .ref (rO 22), .int (oO 23), .int (oO 24), .int (oO 25), .ref (rO 26), .int (oO 27), .int (oO 28), .int (oO 29), .int (oO 30), .int (oO 31), .int (oO 32), .int (oO 33), .int (oO 34), .int (oO 35), .int (oO 36), .int (oO 37), .ref (rO 38), .ref (rO 39), .ref (rO 40), .int (oO 41), .int (oO 42), .int (oO 43), .ref (rO 44), .int (oO 45)])), ((rO 0), .inl (cI, 7, .inl (aO 0))), ((rO 1), .inl (cI, 8, .inl (aO 1))), ((rO 2), .inl (cI, 8, .inl (aO 2))), ((rO 3), .inl (cI, 8, .inl (aO 3))), ((rO 4), .inl (cI, 8, .inl (aO 4))), ((rO 5), .inl (cI, 4, .inl (aO 5))), ((rO 6), .inl (cI, 4, .inl (aO 6))), ((rO 7), .inl (cI, 4, .inl (aO 7))), ((rO 8), .inl (cI, 4, .inl (aO 8))), ((rO 9), .inl (cI, 4, .inl (aO 9))), ((rO 10), .inl (cI, 4, .inl (aO 10))), ((rO 11), .inl (cI, 4, .inl (aO 11))), ((rO 12), .inl (cI, 4, .inl (aO 12))), ((rO 19), .inl (cI, 96, .inl (aO 19))), ((rO 20), .inl (cI, 48, .inl (aO 20))), ((rO 21), .inl (cI, 48, .inl (aO 21))), ((rO 22), .inl (cI, 192, .inl (aO 22))), ((rO 26), .inl (cI, 160, .inl (aO 26))), ((rO 38), .inl (cI, 54, .inl (aO 38))), ((rO 39), .inl (cI, 9, .inl (aO 39))), ((rO 40), .inl (cI, 9, .inl (aO 40))), ((rO 44), .inl (cI, 12, .inl (aO 44)))] → va_S A s.heap H locs → lv_has ls 4 [(3, .int v3a), (2, .int v2a), (0, .ref adO), (1, .int p0)] → W p l e (xR (0) (0)) s m ([.ref adO, .int p0] : List Value).toArray below meth c H locs 0 0 (MQ below (va_Qi (fun (r' : Int32) (_ : Unit) => r' = (F_X7_ahead oO aO p0)) (xE D [(adO, .inr (7, [.ref (rO 0), .ref (rO 1), .ref (rO 2), .ref (rO 3), .ref (rO 4), .ref (rO 5), .ref (rO 6), .ref (rO 7), .ref (rO 8), .ref (rO 9), .ref (rO 10), .ref (rO 11), .ref (rO 12), .int (oO 13), .int (oO 14), .int (oO 15), .int (oO 16), .int (oO 17), .int (oO 18), .ref (rO 19), .ref (rO 20), .ref (rO 21), .ref (rO 22), .int (oO 23), .int (oO 24), .int (oO 25), .ref (rO 26), .int (oO 27), .int (oO 28), .int (oO 29), .int (oO 30), .int (oO 31), .int (oO 32), .int (oO 33), .int (oO 34), .int (oO 35), .int (oO 36), .int (oO 37), .ref (rO 38), .ref (rO 39), .ref (rO 40), .int (oO 41), .int (oO 42), .int (oO 43), .ref (rO 44), .int (oO 45)])), ((rO 0), .inl (cI, 7, .inl (aO 0))), ((rO 1), .inl (cI, 8, .inl (aO 1))), ((rO 2), .inl (cI, 8, .inl (aO 2))), ((rO 3), .inl (cI, 8, .inl (aO 3))), ((rO 4), .inl (cI, 8, .inl (aO 4))), ((rO 5), .inl (cI, 4, .inl (aO 5))), ((rO 6), .inl (cI, 4, .inl (aO 6))), ((rO 7), .inl (cI, 4, .inl (aO 7))), ((rO 8), .inl (cI, 4, .inl (aO 8))), ((rO 9), .inl (cI, 4, .inl (aO 9))), ((rO 10), .inl (cI, 4, .inl (aO 10))), ((rO 11), .inl (cI, 4, .inl (aO 11))), ((rO 12), .inl (cI, 4, .inl (aO 12))), ((rO 19), .inl (cI, 96, .inl (aO 19))), ((rO 20), .inl (cI, 48, .inl (aO 20))), ((rO 21), .inl (cI, 48, .inl (aO 21))), ((rO 22), .inl (cI, 192, .inl (aO 22))), ((rO 26), .inl (cI, 160, .inl (aO 26))), ((rO 38), .inl (cI, 54, .inl (aO 38))), ((rO 39), .inl (cI, 9, .inl (aO 39))), ((rO 40), .inl (cI, 9, .inl (aO 40))), ((rO 44), .inl (cI, 12, .inl (aO 44)))]) A) ([.ref adO, .int p0] : List Value).toArray s 0 0 A) (F0 m 4 ls []) := by
    intro nf
    induction nf with
    | zero => intro v2a v3a H locs ls hi0 hm; exact absurd hm (Nat.not_lt_zero _)
    | succ nf ih =>
      intro v2a v3a H locs ls hi0 hm hF hP hD hS hl
      refine lv_iload_n hx hb dX7_ahead_4 rfl (lv_at hl 0 rfl) ?_
      refine lv_iload_n hx hb dX7_ahead_5 rfl (lv_at hl 3 rfl) ?_
      refine lv_icmp_ge (tgt := 38) hx hb dX7_ahead_6 (by decide) (fun c_1 => ?_) (fun c_1 => ?_)
      · refine lv_iload_n hx hb dX7_ahead_38 rfl (lv_at hl 1 rfl) ?_
        have hF1 : F_X7_ahead oO aO p0 = v2a := hF.trans (eX7_ahead_1 oO aO p0 nf v2a v3a c_1)
        exact xi_ret hx hb hr hlocks hP hS rfl (congrArg (fun o : Int32 => o) hF1).symm dX7_ahead_39
      · refine lv_iload_n hx hb dX7_ahead_9 rfl (lv_at hl 1 rfl) ?_
        refine lv_aload_n hx hb dX7_ahead_10 rfl (lv_at hl 2 rfl) ?_
        refine va_get (D := D) (ci := 7) (v := .ref (rO 1)) (C := RX7) (T := TX7) (N := 46) hx hb hts (fun _ h => w_in (inlX7 _ h)) hown hK hP 0 rfl rfl 1 (by decide) (htL _ wd_106) (fun _ h9 => h9) rfl dX7_ahead_11 ?_
        refine lv_iload_n hx hb dX7_ahead_14 rfl (lv_at hl 0 rfl) ?_
        refine va_iald hx hb hK hP 2 0 rfl rfl (vp_in_iff.mpr (by have l0 : (0 : Int32).toInt = 0 := rfl; have l1 : (1 : Int32).toInt = 1 := rfl; have qc_1 := i_nle c_1; omega)) dX7_ahead_15 ?_
        refine lv_topi (fun x_2 ex_2 => ?_)
        refine lv_aload_n hx hb dX7_ahead_16 rfl (lv_at hl 2 rfl) ?_
        refine va_get (D := D) (ci := 7) (v := .ref (rO 1)) (C := RX7) (T := TX7) (N := 46) hx hb hts (fun _ h => w_in (inlX7 _ h)) hown hK hP 0 rfl rfl 1 (by decide) (htL _ wd_106) (fun _ h9 => h9) rfl dX7_ahead_17 ?_
        refine lv_iload_n hx hb dX7_ahead_20 rfl (lv_at hl 3 rfl) ?_
        refine va_iald hx hb hK hP 2 0 rfl rfl (vp_in_iff.mpr (by have l0 : (0 : Int32).toInt = 0 := rfl; have l1 : (1 : Int32).toInt = 1 := rfl; have qex_2 := congrArg Int32.toInt ex_2; have qc_1 := i_nle c_1; omega)) dX7_ahead_21 ?_
        refine lv_topi (fun x_3 ex_3 => ?_)
        refine lv_icmp_ne (tgt := 29) hx hb dX7_ahead_22 (by decide) (fun c_4 => ?_) (fun c_4 => ?_)
        · refine lv_iconst (v := 0) hx hb dX7_ahead_29 (by decide) ?_
          refine lv_iadd hx hb dX7_ahead_30 ?_
          refine lv_topi (fun x_5 ex_5 => ?_)
          refine lv_istore_n (lv' := [(2, .int x_5), (3, .int v3a), (0, .ref adO), (1, .int p0)]) hx hb dX7_ahead_31 rfl hl (by decide) rfl (fun ls hl => ?_)
          obtain ⟨x_6, ex_6⟩ : ∃ y : Int32, y = v3a + 1 := ⟨_, rfl⟩
          refine lv_iinc (v := x_6) (lv' := [(3, .int x_6), (2, .int x_5), (0, .ref adO), (1, .int p0)]) hx hb dX7_ahead_32 hl (k := 1) rfl (by rw [ex_6]; rfl) (by decide) rfl (fun ls hl => ?_)
          refine lv_goto (tgt := 4) hx hb dX7_ahead_35 (by decide) ?_
          exact ih x_5 x_6 _ _ _ (by have l0 : (0 : Int32).toInt = 0 := rfl; have l1 : (1 : Int32).toInt = 1 := rfl; have qex_2 := congrArg Int32.toInt ex_2; have qex_3 := congrArg Int32.toInt ex_3; have qc_1 := i_nle c_1; have qc_4 := x_ne c_4; (try have qex_5 := i_add ex_5 (by omega) (by omega)); (try have qex_6 := i_add ex_6 (by omega) (by omega)); omega) (by first | (rw [ex_6]; first | exact x_up (by assumption) hm | exact x_up' (by assumption) hm | exact x_up c_1 hm) | (have l0 : (0 : Int32).toInt = 0 := rfl; have l1 : (1 : Int32).toInt = 1 := rfl; have qex_2 := congrArg Int32.toInt ex_2; have qex_3 := congrArg Int32.toInt ex_3; have qc_1 := i_nle c_1; have qc_4 := x_ne c_4; (try have qex_5 := i_add ex_5 (by omega) (by omega)); (try have qex_6 := i_add ex_6 (by omega) (by omega)); omega)) (hF.trans (eX7_ahead_2 oO aO p0 nf v2a v3a x_2 x_3 x_5 x_6 ex_2 ex_3 ex_5 ex_6 c_1 c_4)) hP hD hS (lv_sub hl [0, 1, 2, 3] rfl)
        · refine lv_iconst (v := 1) hx hb dX7_ahead_25 (by decide) ?_
          refine lv_goto (tgt := 30) hx hb dX7_ahead_26 (by decide) ?_
          refine lv_iadd hx hb dX7_ahead_30 ?_
          refine lv_topi (fun x_7 ex_7 => ?_)
          refine lv_istore_n (lv' := [(2, .int x_7), (3, .int v3a), (0, .ref adO), (1, .int p0)]) hx hb dX7_ahead_31 rfl hl (by decide) rfl (fun ls hl => ?_)
          obtain ⟨x_8, ex_8⟩ : ∃ y : Int32, y = v3a + 1 := ⟨_, rfl⟩
          refine lv_iinc (v := x_8) (lv' := [(3, .int x_8), (2, .int x_7), (0, .ref adO), (1, .int p0)]) hx hb dX7_ahead_32 hl (k := 1) rfl (by rw [ex_8]; rfl) (by decide) rfl (fun ls hl => ?_)
          refine lv_goto (tgt := 4) hx hb dX7_ahead_35 (by decide) ?_
          exact ih x_7 x_8 _ _ _ (by have l0 : (0 : Int32).toInt = 0 := rfl; have l1 : (1 : Int32).toInt = 1 := rfl; have qex_2 := congrArg Int32.toInt ex_2; have qex_3 := congrArg Int32.toInt ex_3; have qc_1 := i_nle c_1; have qc_4 := i_eq c_4; (try have qex_7 := i_add ex_7 (by omega) (by omega)); (try have qex_8 := i_add ex_8 (by omega) (by omega)); omega) (by first | (rw [ex_8]; first | exact x_up (by assumption) hm | exact x_up' (by assumption) hm | exact x_up c_1 hm) | (have l0 : (0 : Int32).toInt = 0 := rfl; have l1 : (1 : Int32).toInt = 1 := rfl; have qex_2 := congrArg Int32.toInt ex_2; have qex_3 := congrArg Int32.toInt ex_3; have qc_1 := i_nle c_1; have qc_4 := i_eq c_4; (try have qex_7 := i_add ex_7 (by omega) (by omega)); (try have qex_8 := i_add ex_8 (by omega) (by omega)); omega)) (hF.trans (eX7_ahead_3 oO aO p0 nf v2a v3a x_2 x_3 x_7 x_8 ex_2 ex_3 ex_7 ex_8 c_1 c_4)) hP hD hS (lv_sub hl [0, 1, 2, 3] rfl)
  exact loop (((p0.toInt - (0 : Int32).toInt).toNat) + 1) 0 0 _ _ _ (by first | assumption | (have l0 : (0 : Int32).toInt = 0 := rfl; have l1 : (1 : Int32).toInt = 1 := rfl; omega)) (Nat.lt_succ_self _) rfl hP hD hS hl

noncomputable def F_X7_justAhead_L5 (oO : Nat → Int32) (aO : Nat → Nat → Int32) (p0 : Int32) : Nat → Int32 → Int32 → Int32
  | 0, _, _ => default
  | n + 1, v2a, v3a =>
  if p0 ≤ v3a then
  (v2a)
  else
  (let x_2 : Int32 := ((aO 1) v3a.toNatClampNeg)
  let x_3 : Int32 := ((aO 1) p0.toNatClampNeg)
  if x_2 = x_3 then
  (let x_6 : Int32 := v3a + 1
  F_X7_justAhead_L5 oO aO p0 n v3a x_6)
  else
  (let x_5 : Int32 := v3a + 1
  F_X7_justAhead_L5 oO aO p0 n v2a x_5))
noncomputable def F_X7_justAhead (oO : Nat → Int32) (aO : Nat → Nat → Int32) (p0 : Int32) : Int32 :=
  F_X7_justAhead_L5 oO aO p0 (((p0.toInt - (0 : Int32).toInt).toNat) + 1) (-9) 0
set_option maxRecDepth 100000 in
theorem eX7_justAhead_1 (oO : Nat → Int32) (aO : Nat → Nat → Int32) (p0 : Int32) (nf : Nat) (v2a : Int32) (v3a : Int32) (c_1 : p0 ≤ v3a) : F_X7_justAhead_L5 oO aO p0 (nf + 1) v2a v3a = v2a := by exact (if_pos c_1).trans (rfl)
set_option maxRecDepth 100000 in
theorem eX7_justAhead_2 (oO : Nat → Int32) (aO : Nat → Nat → Int32) (p0 : Int32) (nf : Nat) (v2a : Int32) (v3a : Int32) (x_2 : Int32) (x_3 : Int32) (x_5 : Int32) (ex_2 : x_2 = ((aO 1) v3a.toNatClampNeg)) (ex_3 : x_3 = ((aO 1) p0.toNatClampNeg)) (ex_5 : x_5 = v3a + 1) (c_1 : ¬ (p0 ≤ v3a)) (c_4 : ¬ (x_2 = x_3)) : F_X7_justAhead_L5 oO aO p0 (nf + 1) v2a v3a = F_X7_justAhead_L5 oO aO p0 nf v2a x_5 := by subst ex_2 ex_3 ex_5; exact (if_neg c_1).trans ((if_neg c_4).trans (rfl))
set_option maxRecDepth 100000 in
theorem eX7_justAhead_3 (oO : Nat → Int32) (aO : Nat → Nat → Int32) (p0 : Int32) (nf : Nat) (v2a : Int32) (v3a : Int32) (x_2 : Int32) (x_3 : Int32) (x_6 : Int32) (ex_2 : x_2 = ((aO 1) v3a.toNatClampNeg)) (ex_3 : x_3 = ((aO 1) p0.toNatClampNeg)) (ex_6 : x_6 = v3a + 1) (c_1 : ¬ (p0 ≤ v3a)) (c_4 : x_2 = x_3) : F_X7_justAhead_L5 oO aO p0 (nf + 1) v2a v3a = F_X7_justAhead_L5 oO aO p0 nf v3a x_6 := by subst ex_2 ex_3 ex_6; exact (if_neg c_1).trans ((if_pos c_4).trans (rfl))
set_option maxHeartbeats 4000000 in
set_option maxRecDepth 100000 in
theorem c_X7_justAhead (l : Launch) (D : va_G) (cI cL : ClassId)   (adO : Nat) (rO : Nat → Nat) (oO : Nat → Int32) (aO : Nat → Nat → Int32) (p0 : Int32) (hl : 0 ≤ p0.toInt ∧ p0.toInt < 8) : Xi l yX7_justAhead (wm yX7_justAhead cX7_justAhead 4 (some .int)) (xR (0) (0)) D (tyA cI cL) [.ref adO, .int p0] [(adO, .inr (7, [.ref (rO 0), .ref (rO 1), .ref (rO 2), .ref (rO 3), .ref (rO 4), .ref (rO 5), .ref (rO 6), .ref (rO 7), .ref (rO 8), .ref (rO 9), .ref (rO 10), .ref (rO 11), .ref (rO 12), .int (oO 13), .int (oO 14), .int (oO 15), .int (oO 16), .int (oO 17), .int (oO 18), .ref (rO 19), .ref (rO 20), .ref (rO 21), .ref (rO 22), .int (oO 23), .int (oO 24), .int (oO 25), .ref (rO 26), .int (oO 27), .int (oO 28), .int (oO 29), .int (oO 30), .int (oO 31), .int (oO 32), .int (oO 33), .int (oO 34), .int (oO 35), .int (oO 36), .int (oO 37), .ref (rO 38), .ref (rO 39), .ref (rO 40), .int (oO 41), .int (oO 42), .int (oO 43), .ref (rO 44), .int (oO 45)])), ((rO 0), .inl (cI, 7, .inl (aO 0))), ((rO 1), .inl (cI, 8, .inl (aO 1))), ((rO 2), .inl (cI, 8, .inl (aO 2))), ((rO 3), .inl (cI, 8, .inl (aO 3))), ((rO 4), .inl (cI, 8, .inl (aO 4))), ((rO 5), .inl (cI, 4, .inl (aO 5))), ((rO 6), .inl (cI, 4, .inl (aO 6))), ((rO 7), .inl (cI, 4, .inl (aO 7))), ((rO 8), .inl (cI, 4, .inl (aO 8))), ((rO 9), .inl (cI, 4, .inl (aO 9))), ((rO 10), .inl (cI, 4, .inl (aO 10))), ((rO 11), .inl (cI, 4, .inl (aO 11))), ((rO 12), .inl (cI, 4, .inl (aO 12))), ((rO 19), .inl (cI, 96, .inl (aO 19))), ((rO 20), .inl (cI, 48, .inl (aO 20))), ((rO 21), .inl (cI, 48, .inl (aO 21))), ((rO 22), .inl (cI, 192, .inl (aO 22))), ((rO 26), .inl (cI, 160, .inl (aO 26))), ((rO 38), .inl (cI, 54, .inl (aO 38))), ((rO 39), .inl (cI, 9, .inl (aO 39))), ((rO 40), .inl (cI, 9, .inl (aO 40))), ((rO 44), .inl (cI, 12, .inl (aO 44)))] [(adO, .inr (7, [.ref (rO 0), .ref (rO 1), .ref (rO 2), .ref (rO 3), .ref (rO 4), .ref (rO 5), .ref (rO 6), .ref (rO 7), .ref (rO 8), .ref (rO 9), .ref (rO 10), .ref (rO 11), .ref (rO 12), .int (oO 13), .int (oO 14), .int (oO 15), .int (oO 16), .int (oO 17), .int (oO 18), .ref (rO 19), .ref (rO 20), .ref (rO 21), .ref (rO 22), .int (oO 23), .int (oO 24), .int (oO 25), .ref (rO 26), .int (oO 27), .int (oO 28), .int (oO 29), .int (oO 30), .int (oO 31), .int (oO 32), .int (oO 33), .int (oO 34), .int (oO 35), .int (oO 36), .int (oO 37), .ref (rO 38), .ref (rO 39), .ref (rO 40), .int (oO 41), .int (oO 42), .int (oO 43), .ref (rO 44), .int (oO 45)])), ((rO 0), .inl (cI, 7, .inl (aO 0))), ((rO 1), .inl (cI, 8, .inl (aO 1))), ((rO 2), .inl (cI, 8, .inl (aO 2))), ((rO 3), .inl (cI, 8, .inl (aO 3))), ((rO 4), .inl (cI, 8, .inl (aO 4))), ((rO 5), .inl (cI, 4, .inl (aO 5))), ((rO 6), .inl (cI, 4, .inl (aO 6))), ((rO 7), .inl (cI, 4, .inl (aO 7))), ((rO 8), .inl (cI, 4, .inl (aO 8))), ((rO 9), .inl (cI, 4, .inl (aO 9))), ((rO 10), .inl (cI, 4, .inl (aO 10))), ((rO 11), .inl (cI, 4, .inl (aO 11))), ((rO 12), .inl (cI, 4, .inl (aO 12))), ((rO 19), .inl (cI, 96, .inl (aO 19))), ((rO 20), .inl (cI, 48, .inl (aO 20))), ((rO 21), .inl (cI, 48, .inl (aO 21))), ((rO 22), .inl (cI, 192, .inl (aO 22))), ((rO 26), .inl (cI, 160, .inl (aO 26))), ((rO 38), .inl (cI, 54, .inl (aO 38))), ((rO 39), .inl (cI, 9, .inl (aO 39))), ((rO 40), .inl (cI, 9, .inl (aO 40))), ((rO 44), .inl (cI, 12, .inl (aO 44)))] (F_X7_justAhead oO aO p0) := by
  intro sz
  refine x_in (cc := cX7_justAhead) (maxL := 4) (ret := (some .int)) (by decide) rfl (Nat.le_of_ble_eq_true rfl) (fun p e s m below meth c A ls hfix hr hlocks hN hK hP hAe hD hA hS hl => ?_)
  obtain ⟨hx, hb, hml, hown, hts⟩ := hfix
  rw [← hAe]
  clear hAe
  have hown : s.vm.findClass RX7 = some m.cls := hown
  have htL : ∀ w ∈ wsL_law, w.before ([.ref adO, .int p0] : List Value).toArray s = true := fun w h => hts w (List.mem_cons_of_mem _ h)
  have hl : lv_has ls 4 [(0, .ref adO), (1, .int p0)] := hl
  refine lv_bipush (v := (-9)) hx hb dX7_justAhead_0 (by decide) ?_
  refine lv_istore_n (lv' := [(2, .int (-9)), (0, .ref adO), (1, .int p0)]) hx hb dX7_justAhead_2 rfl hl (by decide) rfl (fun ls hl => ?_)
  refine lv_iconst (v := 0) hx hb dX7_justAhead_3 (by decide) ?_
  refine lv_istore_n (lv' := [(3, .int 0), (2, .int (-9)), (0, .ref adO), (1, .int p0)]) hx hb dX7_justAhead_4 rfl hl (by decide) rfl (fun ls hl => ?_)
  have loop : ∀ (nf : Nat) (v2a : Int32) (v3a : Int32) (H : Heap) (locs : List Loc) (ls : Array Slot), 0 ≤ v3a.toInt → (p0.toInt - v3a.toInt).toNat < nf → F_X7_justAhead oO aO p0 = F_X7_justAhead_L5 oO aO p0 nf v2a v3a → va_P D vwCl [(adO, .inr (7, [.ref (rO 0), .ref (rO 1), .ref (rO 2), .ref (rO 3), .ref (rO 4), .ref (rO 5), .ref (rO 6), .ref (rO 7), .ref (rO 8), .ref (rO 9), .ref (rO 10), .ref (rO 11), .ref (rO 12), .int (oO 13), .int (oO 14), .int (oO 15), .int (oO 16), .int (oO 17), .int (oO 18), .ref (rO 19), .ref (rO 20), .ref (rO 21), .ref (rO 22), .int (oO 23), .int (oO 24), .int (oO 25), .ref (rO 26), .int (oO 27), .int (oO 28), .int (oO 29), .int (oO 30), .int (oO 31), .int (oO 32), .int (oO 33), .int (oO 34), .int (oO 35), .int (oO 36), .int (oO 37), .ref (rO 38), .ref (rO 39), .ref (rO 40), .int (oO 41), .int (oO 42), .int (oO 43), .ref (rO 44), .int (oO 45)])), ((rO 0), .inl (cI, 7, .inl (aO 0))), ((rO 1), .inl (cI, 8, .inl (aO 1))), ((rO 2), .inl (cI, 8, .inl (aO 2))), ((rO 3), .inl (cI, 8, .inl (aO 3))), ((rO 4), .inl (cI, 8, .inl (aO 4))), ((rO 5), .inl (cI, 4, .inl (aO 5))), ((rO 6), .inl (cI, 4, .inl (aO 6))), ((rO 7), .inl (cI, 4, .inl (aO 7))), ((rO 8), .inl (cI, 4, .inl (aO 8))), ((rO 9), .inl (cI, 4, .inl (aO 9))), ((rO 10), .inl (cI, 4, .inl (aO 10))), ((rO 11), .inl (cI, 4, .inl (aO 11))), ((rO 12), .inl (cI, 4, .inl (aO 12))), ((rO 19), .inl (cI, 96, .inl (aO 19))), ((rO 20), .inl (cI, 48, .inl (aO 20))), ((rO 21), .inl (cI, 48, .inl (aO 21))), ((rO 22), .inl (cI, 192, .inl (aO 22))), ((rO 26), .inl (cI, 160, .inl (aO 26))), ((rO 38), .inl (cI, 54, .inl (aO 38))), ((rO 39), .inl (cI, 9, .inl (aO 39))), ((rO 40), .inl (cI, 9, .inl (aO 40))), ((rO 44), .inl (cI, 12, .inl (aO 44)))] H → va_D A [(adO, .inr (7, [.ref (rO 0), .ref (rO 1), .ref (rO 2), .ref (rO 3), .ref (rO 4), .ref (rO 5), .ref (rO 6), .ref (rO 7), .ref (rO 8), .ref (rO 9), .ref (rO 10), .ref (rO 11), .ref (rO 12), .int (oO 13), .int (oO 14), .int (oO 15), .int (oO 16), .int (oO 17), .int (oO 18), .ref (rO 19), .ref (rO 20), .ref (rO 21), .ref (rO 22), .int (oO 23), .int (oO 24), .int (oO 25), .ref (rO 26), .int (oO 27), .int (oO 28), .int (oO 29), .int (oO 30), .int (oO 31), .int (oO 32), .int (oO 33), .int (oO 34), .int (oO 35), .int (oO 36), .int (oO 37), .ref (rO 38), .ref (rO 39), .ref (rO 40), .int (oO 41), .int (oO 42), .int (oO 43), .ref (rO 44), .int (oO 45)])), ((rO 0), .inl (cI, 7, .inl (aO 0))), ((rO 1), .inl (cI, 8, .inl (aO 1))), ((rO 2), .inl (cI, 8, .inl (aO 2))), ((rO 3), .inl (cI, 8, .inl (aO 3))), ((rO 4), .inl (cI, 8, .inl (aO 4))), ((rO 5), .inl (cI, 4, .inl (aO 5))), ((rO 6), .inl (cI, 4, .inl (aO 6))), ((rO 7), .inl (cI, 4, .inl (aO 7))), ((rO 8), .inl (cI, 4, .inl (aO 8))), ((rO 9), .inl (cI, 4, .inl (aO 9))), ((rO 10), .inl (cI, 4, .inl (aO 10))), ((rO 11), .inl (cI, 4, .inl (aO 11))), ((rO 12), .inl (cI, 4, .inl (aO 12))), ((rO 19), .inl (cI, 96, .inl (aO 19))), ((rO 20), .inl (cI, 48, .inl (aO 20))), ((rO 21), .inl (cI, 48, .inl (aO 21))), ((rO 22), .inl (cI, 192, .inl (aO 22))), ((rO 26), .inl (cI, 160, .inl (aO 26))), ((rO 38), .inl (cI, 54, .inl (aO 38))), ((rO 39), .inl (cI, 9, .inl (aO 39))), ((rO 40), .inl (cI, 9, .inl (aO 40))), ((rO 44), .inl (cI, 12, .inl (aO 44)))] → va_S A s.heap H locs → lv_has ls 4 [(3, .int v3a), (2, .int v2a), (0, .ref adO), (1, .int p0)] → W p l e (xR (0) (0)) s m ([.ref adO, .int p0] : List Value).toArray below meth c H locs 0 0 (MQ below (va_Qi (fun (r' : Int32) (_ : Unit) => r' = (F_X7_justAhead oO aO p0)) (xE D [(adO, .inr (7, [.ref (rO 0), .ref (rO 1), .ref (rO 2), .ref (rO 3), .ref (rO 4), .ref (rO 5), .ref (rO 6), .ref (rO 7), .ref (rO 8), .ref (rO 9), .ref (rO 10), .ref (rO 11), .ref (rO 12), .int (oO 13), .int (oO 14), .int (oO 15), .int (oO 16), .int (oO 17), .int (oO 18), .ref (rO 19), .ref (rO 20), .ref (rO 21), .ref (rO 22), .int (oO 23), .int (oO 24), .int (oO 25), .ref (rO 26), .int (oO 27), .int (oO 28), .int (oO 29), .int (oO 30), .int (oO 31), .int (oO 32), .int (oO 33), .int (oO 34), .int (oO 35), .int (oO 36), .int (oO 37), .ref (rO 38), .ref (rO 39), .ref (rO 40), .int (oO 41), .int (oO 42), .int (oO 43), .ref (rO 44), .int (oO 45)])), ((rO 0), .inl (cI, 7, .inl (aO 0))), ((rO 1), .inl (cI, 8, .inl (aO 1))), ((rO 2), .inl (cI, 8, .inl (aO 2))), ((rO 3), .inl (cI, 8, .inl (aO 3))), ((rO 4), .inl (cI, 8, .inl (aO 4))), ((rO 5), .inl (cI, 4, .inl (aO 5))), ((rO 6), .inl (cI, 4, .inl (aO 6))), ((rO 7), .inl (cI, 4, .inl (aO 7))), ((rO 8), .inl (cI, 4, .inl (aO 8))), ((rO 9), .inl (cI, 4, .inl (aO 9))), ((rO 10), .inl (cI, 4, .inl (aO 10))), ((rO 11), .inl (cI, 4, .inl (aO 11))), ((rO 12), .inl (cI, 4, .inl (aO 12))), ((rO 19), .inl (cI, 96, .inl (aO 19))), ((rO 20), .inl (cI, 48, .inl (aO 20))), ((rO 21), .inl (cI, 48, .inl (aO 21))), ((rO 22), .inl (cI, 192, .inl (aO 22))), ((rO 26), .inl (cI, 160, .inl (aO 26))), ((rO 38), .inl (cI, 54, .inl (aO 38))), ((rO 39), .inl (cI, 9, .inl (aO 39))), ((rO 40), .inl (cI, 9, .inl (aO 40))), ((rO 44), .inl (cI, 12, .inl (aO 44)))]) A) ([.ref adO, .int p0] : List Value).toArray s 0 0 A) (F0 m 5 ls []) := by
    intro nf
    induction nf with
    | zero => intro v2a v3a H locs ls hi0 hm; exact absurd hm (Nat.not_lt_zero _)
    | succ nf ih =>
      intro v2a v3a H locs ls hi0 hm hF hP hD hS hl
      refine lv_iload_n hx hb dX7_justAhead_5 rfl (lv_at hl 0 rfl) ?_
      refine lv_iload_n hx hb dX7_justAhead_6 rfl (lv_at hl 3 rfl) ?_
      refine lv_icmp_ge (tgt := 37) hx hb dX7_justAhead_7 (by decide) (fun c_1 => ?_) (fun c_1 => ?_)
      · refine lv_iload_n hx hb dX7_justAhead_37 rfl (lv_at hl 1 rfl) ?_
        have hF1 : F_X7_justAhead oO aO p0 = v2a := hF.trans (eX7_justAhead_1 oO aO p0 nf v2a v3a c_1)
        exact xi_ret hx hb hr hlocks hP hS rfl (congrArg (fun o : Int32 => o) hF1).symm dX7_justAhead_38
      · refine lv_aload_n hx hb dX7_justAhead_10 rfl (lv_at hl 2 rfl) ?_
        refine va_get (D := D) (ci := 7) (v := .ref (rO 1)) (C := RX7) (T := TX7) (N := 46) hx hb hts (fun _ h => w_in (inlX7 _ h)) hown hK hP 0 rfl rfl 1 (by decide) (htL _ wd_106) (fun _ h9 => h9) rfl dX7_justAhead_11 ?_
        refine lv_iload_n hx hb dX7_justAhead_14 rfl (lv_at hl 0 rfl) ?_
        refine va_iald hx hb hK hP 2 0 rfl rfl (vp_in_iff.mpr (by have l0 : (0 : Int32).toInt = 0 := rfl; have l1 : (1 : Int32).toInt = 1 := rfl; have qc_1 := i_nle c_1; omega)) dX7_justAhead_15 ?_
        refine lv_topi (fun x_2 ex_2 => ?_)
        refine lv_aload_n hx hb dX7_justAhead_16 rfl (lv_at hl 2 rfl) ?_
        refine va_get (D := D) (ci := 7) (v := .ref (rO 1)) (C := RX7) (T := TX7) (N := 46) hx hb hts (fun _ h => w_in (inlX7 _ h)) hown hK hP 0 rfl rfl 1 (by decide) (htL _ wd_106) (fun _ h9 => h9) rfl dX7_justAhead_17 ?_
        refine lv_iload_n hx hb dX7_justAhead_20 rfl (lv_at hl 3 rfl) ?_
        refine va_iald hx hb hK hP 2 0 rfl rfl (vp_in_iff.mpr (by have l0 : (0 : Int32).toInt = 0 := rfl; have l1 : (1 : Int32).toInt = 1 := rfl; have qex_2 := congrArg Int32.toInt ex_2; have qc_1 := i_nle c_1; omega)) dX7_justAhead_21 ?_
        refine lv_topi (fun x_3 ex_3 => ?_)
        refine lv_icmp_ne (tgt := 29) hx hb dX7_justAhead_22 (by decide) (fun c_4 => ?_) (fun c_4 => ?_)
        · refine lv_iload_n hx hb dX7_justAhead_29 rfl (lv_at hl 1 rfl) ?_
          refine lv_istore_n (lv' := [(2, .int v2a), (3, .int v3a), (0, .ref adO), (1, .int p0)]) hx hb dX7_justAhead_30 rfl hl (by decide) rfl (fun ls hl => ?_)
          obtain ⟨x_5, ex_5⟩ : ∃ y : Int32, y = v3a + 1 := ⟨_, rfl⟩
          refine lv_iinc (v := x_5) (lv' := [(3, .int x_5), (2, .int v2a), (0, .ref adO), (1, .int p0)]) hx hb dX7_justAhead_31 hl (k := 1) rfl (by rw [ex_5]; rfl) (by decide) rfl (fun ls hl => ?_)
          refine lv_goto (tgt := 5) hx hb dX7_justAhead_34 (by decide) ?_
          exact ih v2a x_5 _ _ _ (by have l0 : (0 : Int32).toInt = 0 := rfl; have l1 : (1 : Int32).toInt = 1 := rfl; have qex_2 := congrArg Int32.toInt ex_2; have qex_3 := congrArg Int32.toInt ex_3; have qc_1 := i_nle c_1; have qc_4 := x_ne c_4; (try have qex_5 := i_add ex_5 (by omega) (by omega)); omega) (by first | (rw [ex_5]; first | exact x_up (by assumption) hm | exact x_up' (by assumption) hm | exact x_up c_1 hm) | (have l0 : (0 : Int32).toInt = 0 := rfl; have l1 : (1 : Int32).toInt = 1 := rfl; have qex_2 := congrArg Int32.toInt ex_2; have qex_3 := congrArg Int32.toInt ex_3; have qc_1 := i_nle c_1; have qc_4 := x_ne c_4; (try have qex_5 := i_add ex_5 (by omega) (by omega)); omega)) (hF.trans (eX7_justAhead_2 oO aO p0 nf v2a v3a x_2 x_3 x_5 ex_2 ex_3 ex_5 c_1 c_4)) hP hD hS (lv_sub hl [0, 1, 2, 3] rfl)
        · refine lv_iload_n hx hb dX7_justAhead_25 rfl (lv_at hl 0 rfl) ?_
          refine lv_goto (tgt := 30) hx hb dX7_justAhead_26 (by decide) ?_
          refine lv_istore_n (lv' := [(2, .int v3a), (3, .int v3a), (0, .ref adO), (1, .int p0)]) hx hb dX7_justAhead_30 rfl hl (by decide) rfl (fun ls hl => ?_)
          obtain ⟨x_6, ex_6⟩ : ∃ y : Int32, y = v3a + 1 := ⟨_, rfl⟩
          refine lv_iinc (v := x_6) (lv' := [(3, .int x_6), (2, .int v3a), (0, .ref adO), (1, .int p0)]) hx hb dX7_justAhead_31 hl (k := 1) rfl (by rw [ex_6]; rfl) (by decide) rfl (fun ls hl => ?_)
          refine lv_goto (tgt := 5) hx hb dX7_justAhead_34 (by decide) ?_
          exact ih v3a x_6 _ _ _ (by have l0 : (0 : Int32).toInt = 0 := rfl; have l1 : (1 : Int32).toInt = 1 := rfl; have qex_2 := congrArg Int32.toInt ex_2; have qex_3 := congrArg Int32.toInt ex_3; have qc_1 := i_nle c_1; have qc_4 := i_eq c_4; (try have qex_6 := i_add ex_6 (by omega) (by omega)); omega) (by first | (rw [ex_6]; first | exact x_up (by assumption) hm | exact x_up' (by assumption) hm | exact x_up c_1 hm) | (have l0 : (0 : Int32).toInt = 0 := rfl; have l1 : (1 : Int32).toInt = 1 := rfl; have qex_2 := congrArg Int32.toInt ex_2; have qex_3 := congrArg Int32.toInt ex_3; have qc_1 := i_nle c_1; have qc_4 := i_eq c_4; (try have qex_6 := i_add ex_6 (by omega) (by omega)); omega)) (hF.trans (eX7_justAhead_3 oO aO p0 nf v2a v3a x_2 x_3 x_6 ex_2 ex_3 ex_6 c_1 c_4)) hP hD hS (lv_sub hl [0, 1, 2, 3] rfl)
  exact loop (((p0.toInt - (0 : Int32).toInt).toNat) + 1) (-9) 0 _ _ _ (by first | assumption | (have l0 : (0 : Int32).toInt = 0 := rfl; have l1 : (1 : Int32).toInt = 1 := rfl; omega)) (Nat.lt_succ_self _) rfl hP hD hS hl
theorem ja_L (o : Nat → Int32) (a : Nat → Nat → Int32) (p0 : Int32) : ∀ (n : Nat) (v2 v3 : Int32), (p0.toInt - v3.toInt).toNat < n → (v2.toInt = -9 ∨ v2.toInt < p0.toInt) → ((F_X7_justAhead_L5 o a p0 n v2 v3).toInt = -9 ∨ (F_X7_justAhead_L5 o a p0 n v2 v3).toInt < p0.toInt) := by
  intro n
  induction n with
  | zero => intro v2 v3 hm; exact absurd hm (Nat.not_lt_zero _)
  | succ n ih =>
    intro v2 v3 hm hv
    unfold F_X7_justAhead_L5
    split
    · exact hv
    · rename_i c
      dsimp only
      split
      · exact ih v3 (v3 + 1) (x_up c hm) (Or.inr (i_nle c))
      · exact ih v2 (v3 + 1) (x_up c hm) hv
theorem sem_X7_justAhead_a {r p : Int32} {o : Nat → Int32} {a : Nat → Nat → Int32} (e : r = F_X7_justAhead o a p) : r.toInt = -9 ∨ r.toInt < p.toInt := by
  subst e
  exact ja_L o a p _ (-9) 0 (Nat.lt_succ_self _) (Or.inl rfl)

noncomputable def F_X7_worthOf (oO : Nat → Int32) (aO : Nat → Nat → Int32) (p0 : Int32) : Int32 :=
  let x_1 : Int32 := ((aO 3) p0.toNatClampNeg)
  let x_2 : Int32 := ((aO 2) p0.toNatClampNeg)
  if x_2 = 1 then
  (let x_4 : Int32 := (x_1 / 2)
  x_4)
  else
  (if x_2 = 2 then
  (x_1)
  else
  (if x_2 = 3 then
  (let r_7 : Int32 := (F_X7_justAhead oO aO p0)
  let x_8 : Int32 := (x_1 / 2)
  if r_7 < 0 then
  (let x_10 : Int32 := (x_8 + 0)
  x_10)
  else
  (let x_11 : Int32 := ((aO 2) r_7.toNatClampNeg)
  if x_11 = 3 then
  (let x_13 : Int32 := (x_8 + 0)
  x_13)
  else
  (let x_14 : Int32 := (x_8 + 2)
  x_14)))
  else
  (if x_2 = 4 then
  (let x_16 : Int32 := (x_1 + 5)
  x_16)
  else
  (if x_2 = 5 then
  (let r_18 : Int32 := (F_X7_ahead oO aO p0)
  let x_19 : Int32 := (x_1 + r_18)
  x_19)
  else
  (x_1)))))
set_option maxRecDepth 100000 in
theorem eX7_worthOf_1 (oO : Nat → Int32) (aO : Nat → Nat → Int32) (p0 : Int32) (x_1 : Int32) (x_2 : Int32) (x_4 : Int32) (ex_1 : x_1 = ((aO 3) p0.toNatClampNeg)) (ex_2 : x_2 = ((aO 2) p0.toNatClampNeg)) (ex_4 : x_4 = (x_1 / 2)) (c_3 : x_2 = 1) : F_X7_worthOf oO aO p0 = x_4 := by subst ex_1 ex_2 ex_4; exact (if_pos c_3).trans (rfl)
set_option maxRecDepth 100000 in
theorem eX7_worthOf_2 (oO : Nat → Int32) (aO : Nat → Nat → Int32) (p0 : Int32) (x_1 : Int32) (x_2 : Int32) (ex_1 : x_1 = ((aO 3) p0.toNatClampNeg)) (ex_2 : x_2 = ((aO 2) p0.toNatClampNeg)) (c_3 : ¬ (x_2 = 1)) (c_5 : x_2 = 2) : F_X7_worthOf oO aO p0 = x_1 := by subst ex_1 ex_2; exact (if_neg c_3).trans ((if_pos c_5).trans (rfl))
set_option maxRecDepth 100000 in
theorem eX7_worthOf_3 (oO : Nat → Int32) (aO : Nat → Nat → Int32) (p0 : Int32) (x_1 : Int32) (x_2 : Int32) (r_7 : Int32) (x_8 : Int32) (x_10 : Int32) (ex_1 : x_1 = ((aO 3) p0.toNatClampNeg)) (ex_2 : x_2 = ((aO 2) p0.toNatClampNeg)) (er_7 : r_7 = (F_X7_justAhead oO aO p0)) (ex_8 : x_8 = (x_1 / 2)) (ex_10 : x_10 = (x_8 + 0)) (c_3 : ¬ (x_2 = 1)) (c_5 : ¬ (x_2 = 2)) (c_6 : x_2 = 3) (c_9 : r_7 < 0) : F_X7_worthOf oO aO p0 = x_10 := by subst ex_1 ex_2 er_7 ex_8 ex_10; exact (if_neg c_3).trans ((if_neg c_5).trans ((if_pos c_6).trans ((if_pos c_9).trans (rfl))))
set_option maxRecDepth 100000 in
theorem eX7_worthOf_4 (oO : Nat → Int32) (aO : Nat → Nat → Int32) (p0 : Int32) (x_1 : Int32) (x_2 : Int32) (r_7 : Int32) (x_8 : Int32) (x_11 : Int32) (x_13 : Int32) (ex_1 : x_1 = ((aO 3) p0.toNatClampNeg)) (ex_2 : x_2 = ((aO 2) p0.toNatClampNeg)) (er_7 : r_7 = (F_X7_justAhead oO aO p0)) (ex_8 : x_8 = (x_1 / 2)) (ex_11 : x_11 = ((aO 2) r_7.toNatClampNeg)) (ex_13 : x_13 = (x_8 + 0)) (c_3 : ¬ (x_2 = 1)) (c_5 : ¬ (x_2 = 2)) (c_6 : x_2 = 3) (c_9 : ¬ (r_7 < 0)) (c_12 : x_11 = 3) : F_X7_worthOf oO aO p0 = x_13 := by subst ex_1 ex_2 er_7 ex_8 ex_11 ex_13; exact (if_neg c_3).trans ((if_neg c_5).trans ((if_pos c_6).trans ((if_neg c_9).trans ((if_pos c_12).trans (rfl)))))
set_option maxRecDepth 100000 in
theorem eX7_worthOf_5 (oO : Nat → Int32) (aO : Nat → Nat → Int32) (p0 : Int32) (x_1 : Int32) (x_2 : Int32) (r_7 : Int32) (x_8 : Int32) (x_11 : Int32) (x_14 : Int32) (ex_1 : x_1 = ((aO 3) p0.toNatClampNeg)) (ex_2 : x_2 = ((aO 2) p0.toNatClampNeg)) (er_7 : r_7 = (F_X7_justAhead oO aO p0)) (ex_8 : x_8 = (x_1 / 2)) (ex_11 : x_11 = ((aO 2) r_7.toNatClampNeg)) (ex_14 : x_14 = (x_8 + 2)) (c_3 : ¬ (x_2 = 1)) (c_5 : ¬ (x_2 = 2)) (c_6 : x_2 = 3) (c_9 : ¬ (r_7 < 0)) (c_12 : ¬ (x_11 = 3)) : F_X7_worthOf oO aO p0 = x_14 := by subst ex_1 ex_2 er_7 ex_8 ex_11 ex_14; exact (if_neg c_3).trans ((if_neg c_5).trans ((if_pos c_6).trans ((if_neg c_9).trans ((if_neg c_12).trans (rfl)))))
set_option maxRecDepth 100000 in
theorem eX7_worthOf_6 (oO : Nat → Int32) (aO : Nat → Nat → Int32) (p0 : Int32) (x_1 : Int32) (x_2 : Int32) (x_16 : Int32) (ex_1 : x_1 = ((aO 3) p0.toNatClampNeg)) (ex_2 : x_2 = ((aO 2) p0.toNatClampNeg)) (ex_16 : x_16 = (x_1 + 5)) (c_3 : ¬ (x_2 = 1)) (c_5 : ¬ (x_2 = 2)) (c_6 : ¬ (x_2 = 3)) (c_15 : x_2 = 4) : F_X7_worthOf oO aO p0 = x_16 := by subst ex_1 ex_2 ex_16; exact (if_neg c_3).trans ((if_neg c_5).trans ((if_neg c_6).trans ((if_pos c_15).trans (rfl))))
set_option maxRecDepth 100000 in
theorem eX7_worthOf_7 (oO : Nat → Int32) (aO : Nat → Nat → Int32) (p0 : Int32) (x_1 : Int32) (x_2 : Int32) (r_18 : Int32) (x_19 : Int32) (ex_1 : x_1 = ((aO 3) p0.toNatClampNeg)) (ex_2 : x_2 = ((aO 2) p0.toNatClampNeg)) (er_18 : r_18 = (F_X7_ahead oO aO p0)) (ex_19 : x_19 = (x_1 + r_18)) (c_3 : ¬ (x_2 = 1)) (c_5 : ¬ (x_2 = 2)) (c_6 : ¬ (x_2 = 3)) (c_15 : ¬ (x_2 = 4)) (c_17 : x_2 = 5) : F_X7_worthOf oO aO p0 = x_19 := by subst ex_1 ex_2 er_18 ex_19; exact (if_neg c_3).trans ((if_neg c_5).trans ((if_neg c_6).trans ((if_neg c_15).trans ((if_pos c_17).trans (rfl)))))
set_option maxRecDepth 100000 in
theorem eX7_worthOf_8 (oO : Nat → Int32) (aO : Nat → Nat → Int32) (p0 : Int32) (x_1 : Int32) (x_2 : Int32) (ex_1 : x_1 = ((aO 3) p0.toNatClampNeg)) (ex_2 : x_2 = ((aO 2) p0.toNatClampNeg)) (c_3 : ¬ (x_2 = 1)) (c_5 : ¬ (x_2 = 2)) (c_6 : ¬ (x_2 = 3)) (c_15 : ¬ (x_2 = 4)) (c_17 : ¬ (x_2 = 5)) : F_X7_worthOf oO aO p0 = x_1 := by subst ex_1 ex_2; exact (if_neg c_3).trans ((if_neg c_5).trans ((if_neg c_6).trans ((if_neg c_15).trans ((if_neg c_17).trans (rfl)))))
set_option maxHeartbeats 4000000 in
set_option maxRecDepth 100000 in
theorem c_X7_worthOf (l : Launch) (D : va_G) (cI cL : ClassId)   (adO : Nat) (rO : Nat → Nat) (oO : Nat → Int32) (aO : Nat → Nat → Int32) (p0 : Int32) (hl : 0 ≤ p0.toInt ∧ p0.toInt < 8) : Xi l yX7_worthOf (wm yX7_worthOf cX7_worthOf 4 (some .int)) (xR (1) (23)) D (tyA cI cL) [.ref adO, .int p0] [(adO, .inr (7, [.ref (rO 0), .ref (rO 1), .ref (rO 2), .ref (rO 3), .ref (rO 4), .ref (rO 5), .ref (rO 6), .ref (rO 7), .ref (rO 8), .ref (rO 9), .ref (rO 10), .ref (rO 11), .ref (rO 12), .int (oO 13), .int (oO 14), .int (oO 15), .int (oO 16), .int (oO 17), .int (oO 18), .ref (rO 19), .ref (rO 20), .ref (rO 21), .ref (rO 22), .int (oO 23), .int (oO 24), .int (oO 25), .ref (rO 26), .int (oO 27), .int (oO 28), .int (oO 29), .int (oO 30), .int (oO 31), .int (oO 32), .int (oO 33), .int (oO 34), .int (oO 35), .int (oO 36), .int (oO 37), .ref (rO 38), .ref (rO 39), .ref (rO 40), .int (oO 41), .int (oO 42), .int (oO 43), .ref (rO 44), .int (oO 45)])), ((rO 0), .inl (cI, 7, .inl (aO 0))), ((rO 1), .inl (cI, 8, .inl (aO 1))), ((rO 2), .inl (cI, 8, .inl (aO 2))), ((rO 3), .inl (cI, 8, .inl (aO 3))), ((rO 4), .inl (cI, 8, .inl (aO 4))), ((rO 5), .inl (cI, 4, .inl (aO 5))), ((rO 6), .inl (cI, 4, .inl (aO 6))), ((rO 7), .inl (cI, 4, .inl (aO 7))), ((rO 8), .inl (cI, 4, .inl (aO 8))), ((rO 9), .inl (cI, 4, .inl (aO 9))), ((rO 10), .inl (cI, 4, .inl (aO 10))), ((rO 11), .inl (cI, 4, .inl (aO 11))), ((rO 12), .inl (cI, 4, .inl (aO 12))), ((rO 19), .inl (cI, 96, .inl (aO 19))), ((rO 20), .inl (cI, 48, .inl (aO 20))), ((rO 21), .inl (cI, 48, .inl (aO 21))), ((rO 22), .inl (cI, 192, .inl (aO 22))), ((rO 26), .inl (cI, 160, .inl (aO 26))), ((rO 38), .inl (cI, 54, .inl (aO 38))), ((rO 39), .inl (cI, 9, .inl (aO 39))), ((rO 40), .inl (cI, 9, .inl (aO 40))), ((rO 44), .inl (cI, 12, .inl (aO 44)))] [(adO, .inr (7, [.ref (rO 0), .ref (rO 1), .ref (rO 2), .ref (rO 3), .ref (rO 4), .ref (rO 5), .ref (rO 6), .ref (rO 7), .ref (rO 8), .ref (rO 9), .ref (rO 10), .ref (rO 11), .ref (rO 12), .int (oO 13), .int (oO 14), .int (oO 15), .int (oO 16), .int (oO 17), .int (oO 18), .ref (rO 19), .ref (rO 20), .ref (rO 21), .ref (rO 22), .int (oO 23), .int (oO 24), .int (oO 25), .ref (rO 26), .int (oO 27), .int (oO 28), .int (oO 29), .int (oO 30), .int (oO 31), .int (oO 32), .int (oO 33), .int (oO 34), .int (oO 35), .int (oO 36), .int (oO 37), .ref (rO 38), .ref (rO 39), .ref (rO 40), .int (oO 41), .int (oO 42), .int (oO 43), .ref (rO 44), .int (oO 45)])), ((rO 0), .inl (cI, 7, .inl (aO 0))), ((rO 1), .inl (cI, 8, .inl (aO 1))), ((rO 2), .inl (cI, 8, .inl (aO 2))), ((rO 3), .inl (cI, 8, .inl (aO 3))), ((rO 4), .inl (cI, 8, .inl (aO 4))), ((rO 5), .inl (cI, 4, .inl (aO 5))), ((rO 6), .inl (cI, 4, .inl (aO 6))), ((rO 7), .inl (cI, 4, .inl (aO 7))), ((rO 8), .inl (cI, 4, .inl (aO 8))), ((rO 9), .inl (cI, 4, .inl (aO 9))), ((rO 10), .inl (cI, 4, .inl (aO 10))), ((rO 11), .inl (cI, 4, .inl (aO 11))), ((rO 12), .inl (cI, 4, .inl (aO 12))), ((rO 19), .inl (cI, 96, .inl (aO 19))), ((rO 20), .inl (cI, 48, .inl (aO 20))), ((rO 21), .inl (cI, 48, .inl (aO 21))), ((rO 22), .inl (cI, 192, .inl (aO 22))), ((rO 26), .inl (cI, 160, .inl (aO 26))), ((rO 38), .inl (cI, 54, .inl (aO 38))), ((rO 39), .inl (cI, 9, .inl (aO 39))), ((rO 40), .inl (cI, 9, .inl (aO 40))), ((rO 44), .inl (cI, 12, .inl (aO 44)))] (F_X7_worthOf oO aO p0) := by
  intro sz
  refine x_in (cc := cX7_worthOf) (maxL := 4) (ret := (some .int)) (by decide) rfl (Nat.le_of_ble_eq_true rfl) (fun p e s m below meth c A ls hfix hr hlocks hN hK hP hAe hD hA hS hl => ?_)
  obtain ⟨hx, hb, hml, hown, hts⟩ := hfix
  rw [← hAe]
  clear hAe
  have hown : s.vm.findClass RX7 = some m.cls := hown
  have htL : ∀ w ∈ wsL_law, w.before ([.ref adO, .int p0] : List Value).toArray s = true := fun w h => hts w (List.mem_cons_of_mem _ h)
  have hl : lv_has ls 4 [(0, .ref adO), (1, .int p0)] := hl
  refine lv_aload_n hx hb dX7_worthOf_0 rfl (lv_at hl 0 rfl) ?_
  refine va_get (D := D) (ci := 7) (v := .ref (rO 3)) (C := RX7) (T := TX7) (N := 46) hx hb hts (fun _ h => w_in (inlX7 _ h)) hown hK hP 0 rfl rfl 3 (by decide) (htL _ wd_108) (fun _ h9 => h9) rfl dX7_worthOf_1 ?_
  refine lv_iload_n hx hb dX7_worthOf_4 rfl (lv_at hl 1 rfl) ?_
  refine va_iald hx hb hK hP 4 0 rfl rfl (vp_in_iff.mpr (by have l0 : (0 : Int32).toInt = 0 := rfl; have l1 : (1 : Int32).toInt = 1 := rfl; omega)) dX7_worthOf_5 ?_
  refine lv_topi (fun x_1 ex_1 => ?_)
  refine lv_istore_n (lv' := [(2, .int x_1), (0, .ref adO), (1, .int p0)]) hx hb dX7_worthOf_6 rfl hl (by decide) rfl (fun ls hl => ?_)
  refine lv_aload_n hx hb dX7_worthOf_7 rfl (lv_at hl 1 rfl) ?_
  refine va_get (D := D) (ci := 7) (v := .ref (rO 2)) (C := RX7) (T := TX7) (N := 46) hx hb hts (fun _ h => w_in (inlX7 _ h)) hown hK hP 0 rfl rfl 2 (by decide) (htL _ wd_107) (fun _ h9 => h9) rfl dX7_worthOf_8 ?_
  refine lv_iload_n hx hb dX7_worthOf_11 rfl (lv_at hl 2 rfl) ?_
  refine va_iald hx hb hK hP 3 0 rfl rfl (vp_in_iff.mpr (by have l0 : (0 : Int32).toInt = 0 := rfl; have l1 : (1 : Int32).toInt = 1 := rfl; have l3 : (3 : Int32).toInt = 3 := rfl; have qex_1 := congrArg Int32.toInt ex_1; omega)) dX7_worthOf_12 ?_
  refine lv_topi (fun x_2 ex_2 => ?_)
  by_cases c_3 : x_2 = 1
  · refine lv_tableIn (off := 35) (tgt := 48) hx hb dX7_worthOf_13 (by rw [c_3]; decide) (by rw [c_3]; decide) (by rw [c_3]; rfl) (by decide) ?_
    refine lv_iload_n hx hb dX7_worthOf_48 rfl (lv_at hl 0 rfl) ?_
    refine lv_iconst (v := 2) hx hb dX7_worthOf_49 (by decide) ?_
    refine lv_idiv hx hb dX7_worthOf_50 (by decide) ?_
    refine lv_topi (fun x_4 ex_4 => ?_)
    have hF1 : F_X7_worthOf oO aO p0 = x_4 := (eX7_worthOf_1 oO aO p0 x_1 x_2 x_4 ex_1 ex_2 ex_4 c_3)
    exact xi_ret hx hb hr hlocks hP hS rfl (congrArg (fun o : Int32 => o) hF1).symm dX7_worthOf_51
  · by_cases c_5 : x_2 = 2
    · refine lv_tableIn (off := 81) (tgt := 94) hx hb dX7_worthOf_13 (by rw [c_5]; decide) (by rw [c_5]; decide) (by rw [c_5]; rfl) (by decide) ?_
      refine lv_iload_n hx hb dX7_worthOf_94 rfl (lv_at hl 0 rfl) ?_
      have hF1 : F_X7_worthOf oO aO p0 = x_1 := (eX7_worthOf_2 oO aO p0 x_1 x_2 ex_1 ex_2 c_3 c_5)
      exact xi_ret hx hb hr hlocks hP hS rfl (congrArg (fun o : Int32 => o) hF1).symm dX7_worthOf_95
    · by_cases c_6 : x_2 = 3
      · refine lv_tableIn (off := 39) (tgt := 52) hx hb dX7_worthOf_13 (by rw [c_6]; decide) (by rw [c_6]; decide) (by rw [c_6]; rfl) (by decide) ?_
        refine lv_aload_n hx hb dX7_worthOf_52 rfl (lv_at hl 1 rfl) ?_
        refine lv_iload_n hx hb dX7_worthOf_53 rfl (lv_at hl 2 rfl) ?_
        refine x_ci [0, 1, 2, 3, 4, 5, 6, 7, 8, 9, 10, 11, 12, 13, 14, 15, 16, 17, 18, 19, 20, 21, 22] (va_runV (As := [.int p0]) (rest := []) ⟨hx, hb, hml, hown, hts⟩ (c_X7_justAhead l D cI cL adO rO oO aO p0 (show 0 ≤ p0.toInt ∧ p0.toInt < 8 from by first | assumption | decide | (have l0 : (0 : Int32).toInt = 0 := rfl; have l1 : (1 : Int32).toInt = 1 := rfl; have l2 : (2 : Int32).toInt = 2 := rfl; have l3 : (3 : Int32).toInt = 3 := rfl; have qex_1 := congrArg Int32.toInt ex_1; have qex_2 := congrArg Int32.toInt ex_2; have qc_3 := x_ne c_3; have qc_5 := x_ne c_5; have qc_6 := i_eq c_6; omega)) _) (cwV 1 hts (gv_ok (fun _ h => w_in h) wd_365 wd_362 wd_363 wd_364 wd_5) rfl rfl rfl (by decide +kernel) ⟨Nat.le_of_ble_eq_true rfl, Nat.le_of_ble_eq_true rfl⟩) (x_pv hN hK hP hD [0, 1, 2, 3, 4, 5, 6, 7, 8, 9, 10, 11, 12, 13, 14, 15, 16, 17, 18, 19, 20, 21, 22] rfl rfl (ci := 7) (q0 := 0) rfl rfl) rfl rfl hl.1 rfl (lv_room (Nat.le_of_ble_eq_true rfl)) dX7_worthOf_54 ⟨Nat.zero_le _, Nat.zero_le _⟩) hP hD hS hA rfl (fun r_7 H locs er_7 hP hS => ?_)
        refine lv_istore_n (lv' := [(3, .int r_7), (2, .int x_1), (0, .ref adO), (1, .int p0)]) hx hb dX7_worthOf_57 rfl hl (by decide) rfl (fun ls hl => ?_)
        refine lv_iload_n hx hb dX7_worthOf_58 rfl (lv_at hl 1 rfl) ?_
        refine lv_iconst (v := 2) hx hb dX7_worthOf_59 (by decide) ?_
        refine lv_idiv hx hb dX7_worthOf_60 (by decide) ?_
        refine lv_topi (fun x_8 ex_8 => ?_)
        refine lv_iload_n hx hb dX7_worthOf_61 rfl (lv_at hl 0 rfl) ?_
        refine lv_if_lt (tgt := 79) hx hb dX7_worthOf_62 (by decide) (fun c_9 => ?_) (fun c_9 => ?_)
        · refine lv_iconst (v := 0) hx hb dX7_worthOf_79 (by decide) ?_
          refine lv_iadd hx hb dX7_worthOf_80 ?_
          refine lv_topi (fun x_10 ex_10 => ?_)
          have hF1 : F_X7_worthOf oO aO p0 = x_10 := (eX7_worthOf_3 oO aO p0 x_1 x_2 r_7 x_8 x_10 ex_1 ex_2 er_7 ex_8 ex_10 c_3 c_5 c_6 c_9)
          exact xi_ret hx hb hr hlocks hP hS rfl (congrArg (fun o : Int32 => o) hF1).symm dX7_worthOf_81
        · refine lv_aload_n hx hb dX7_worthOf_65 rfl (lv_at hl 2 rfl) ?_
          refine va_get (D := D) (ci := 7) (v := .ref (rO 2)) (C := RX7) (T := TX7) (N := 46) hx hb hts (fun _ h => w_in (inlX7 _ h)) hown hK hP 0 rfl rfl 2 (by decide) (htL _ wd_107) (fun _ h9 => h9) rfl dX7_worthOf_66 ?_
          refine lv_iload_n hx hb dX7_worthOf_69 rfl (lv_at hl 0 rfl) ?_
          refine va_iald hx hb hK hP 3 0 rfl rfl (vp_in_iff.mpr (by have l0 : (0 : Int32).toInt = 0 := rfl; have l1 : (1 : Int32).toInt = 1 := rfl; have l2 : (2 : Int32).toInt = 2 := rfl; have l3 : (3 : Int32).toInt = 3 := rfl; have qex_1 := congrArg Int32.toInt ex_1; have qex_2 := congrArg Int32.toInt ex_2; have qer_7 : r_7.toInt = -9 ∨ r_7.toInt < p0.toInt := (by have h9 := sem_X7_justAhead_a er_7; exact h9); have qex_8 := congrArg Int32.toInt ex_8; have qc_3 := x_ne c_3; have qc_5 := x_ne c_5; have qc_6 := i_eq c_6; have qc_9 := i_nlt c_9; omega)) dX7_worthOf_70 ?_
          refine lv_topi (fun x_11 ex_11 => ?_)
          refine lv_iconst (v := 3) hx hb dX7_worthOf_71 (by decide) ?_
          refine lv_icmp_eq (tgt := 79) hx hb dX7_worthOf_72 (by decide) (fun c_12 => ?_) (fun c_12 => ?_)
          · refine lv_iconst (v := 0) hx hb dX7_worthOf_79 (by decide) ?_
            refine lv_iadd hx hb dX7_worthOf_80 ?_
            refine lv_topi (fun x_13 ex_13 => ?_)
            have hF1 : F_X7_worthOf oO aO p0 = x_13 := (eX7_worthOf_4 oO aO p0 x_1 x_2 r_7 x_8 x_11 x_13 ex_1 ex_2 er_7 ex_8 ex_11 ex_13 c_3 c_5 c_6 c_9 c_12)
            exact xi_ret hx hb hr hlocks hP hS rfl (congrArg (fun o : Int32 => o) hF1).symm dX7_worthOf_81
          · refine lv_iconst (v := 2) hx hb dX7_worthOf_75 (by decide) ?_
            refine lv_goto (tgt := 80) hx hb dX7_worthOf_76 (by decide) ?_
            refine lv_iadd hx hb dX7_worthOf_80 ?_
            refine lv_topi (fun x_14 ex_14 => ?_)
            have hF1 : F_X7_worthOf oO aO p0 = x_14 := (eX7_worthOf_5 oO aO p0 x_1 x_2 r_7 x_8 x_11 x_14 ex_1 ex_2 er_7 ex_8 ex_11 ex_14 c_3 c_5 c_6 c_9 c_12)
            exact xi_ret hx hb hr hlocks hP hS rfl (congrArg (fun o : Int32 => o) hF1).symm dX7_worthOf_81
      · by_cases c_15 : x_2 = 4
        · refine lv_tableIn (off := 69) (tgt := 82) hx hb dX7_worthOf_13 (by rw [c_15]; decide) (by rw [c_15]; decide) (by rw [c_15]; rfl) (by decide) ?_
          refine lv_iload_n hx hb dX7_worthOf_82 rfl (lv_at hl 0 rfl) ?_
          refine lv_iconst (v := 5) hx hb dX7_worthOf_83 (by decide) ?_
          refine lv_iadd hx hb dX7_worthOf_84 ?_
          refine lv_topi (fun x_16 ex_16 => ?_)
          have hF1 : F_X7_worthOf oO aO p0 = x_16 := (eX7_worthOf_6 oO aO p0 x_1 x_2 x_16 ex_1 ex_2 ex_16 c_3 c_5 c_6 c_15)
          exact xi_ret hx hb hr hlocks hP hS rfl (congrArg (fun o : Int32 => o) hF1).symm dX7_worthOf_85
        · by_cases c_17 : x_2 = 5
          · refine lv_tableIn (off := 73) (tgt := 86) hx hb dX7_worthOf_13 (by rw [c_17]; decide) (by rw [c_17]; decide) (by rw [c_17]; rfl) (by decide) ?_
            refine lv_iload_n hx hb dX7_worthOf_86 rfl (lv_at hl 0 rfl) ?_
            refine lv_aload_n hx hb dX7_worthOf_87 rfl (lv_at hl 1 rfl) ?_
            refine lv_iload_n hx hb dX7_worthOf_88 rfl (lv_at hl 2 rfl) ?_
            refine x_ci [0, 1, 2, 3, 4, 5, 6, 7, 8, 9, 10, 11, 12, 13, 14, 15, 16, 17, 18, 19, 20, 21, 22] (va_runV (As := [.int p0]) (rest := [.int x_1]) ⟨hx, hb, hml, hown, hts⟩ (c_X7_ahead l D cI cL adO rO oO aO p0 (show 0 ≤ p0.toInt ∧ p0.toInt < 8 from by first | assumption | decide | (have l0 : (0 : Int32).toInt = 0 := rfl; have l1 : (1 : Int32).toInt = 1 := rfl; have l2 : (2 : Int32).toInt = 2 := rfl; have l3 : (3 : Int32).toInt = 3 := rfl; have l4 : (4 : Int32).toInt = 4 := rfl; have l5 : (5 : Int32).toInt = 5 := rfl; have qex_1 := congrArg Int32.toInt ex_1; have qex_2 := congrArg Int32.toInt ex_2; have qc_3 := x_ne c_3; have qc_5 := x_ne c_5; have qc_6 := x_ne c_6; have qc_15 := x_ne c_15; have qc_17 := i_eq c_17; omega)) _) (cwV 1 hts (gv_ok (fun _ h => w_in h) wd_369 wd_366 wd_367 wd_368 wd_5) rfl rfl rfl (by decide +kernel) ⟨Nat.le_of_ble_eq_true rfl, Nat.le_of_ble_eq_true rfl⟩) (x_pv hN hK hP hD [0, 1, 2, 3, 4, 5, 6, 7, 8, 9, 10, 11, 12, 13, 14, 15, 16, 17, 18, 19, 20, 21, 22] rfl rfl (ci := 7) (q0 := 0) rfl rfl) rfl rfl hl.1 rfl (lv_room (Nat.le_of_ble_eq_true rfl)) dX7_worthOf_89 ⟨Nat.zero_le _, Nat.zero_le _⟩) hP hD hS hA rfl (fun r_18 H locs er_18 hP hS => ?_)
            refine lv_iadd hx hb dX7_worthOf_92 ?_
            refine lv_topi (fun x_19 ex_19 => ?_)
            have hF1 : F_X7_worthOf oO aO p0 = x_19 := (eX7_worthOf_7 oO aO p0 x_1 x_2 r_18 x_19 ex_1 ex_2 er_18 ex_19 c_3 c_5 c_6 c_15 c_17)
            exact xi_ret hx hb hr hlocks hP hS rfl (congrArg (fun o : Int32 => o) hF1).symm dX7_worthOf_93
          · refine lv_tableOut (tgt := 94) hx hb dX7_worthOf_13 (by have hn0 := x_nk (z := 1) c_3 rfl; have hn1 := x_nk (z := 2) c_5 rfl; have hn2 := x_nk (z := 3) c_6 rfl; have hn3 := x_nk (z := 4) c_15 rfl; have hn4 := x_nk (z := 5) c_17 rfl; omega) (by decide) ?_
            refine lv_iload_n hx hb dX7_worthOf_94 rfl (lv_at hl 0 rfl) ?_
            have hF1 : F_X7_worthOf oO aO p0 = x_1 := (eX7_worthOf_8 oO aO p0 x_1 x_2 ex_1 ex_2 c_3 c_5 c_6 c_15 c_17)
            exact xi_ret hx hb hr hlocks hP hS rfl (congrArg (fun o : Int32 => o) hF1).symm dX7_worthOf_95

noncomputable def F_X7_worthOfAll_L4 (oO : Nat → Int32) (aO : Nat → Nat → Int32) (p0 : Int32) : Nat → Int32 → Int32 → Int32
  | 0, _, _ => default
  | n + 1, v2a, v3a =>
  if (oO 13) ≤ v3a then
  (v2a)
  else
  (let x_2 : Int32 := (p0 >>> (v3a &&& 31))
  let x_3 : Int32 := (x_2 &&& 1)
  if x_3 = 1 then
  (let r_7 : Int32 := (F_X7_worthOf oO aO v3a)
  let x_8 : Int32 := (v2a + r_7)
  let x_9 : Int32 := v3a + 1
  F_X7_worthOfAll_L4 oO aO p0 n x_8 x_9)
  else
  (let x_5 : Int32 := (v2a + 0)
  let x_6 : Int32 := v3a + 1
  F_X7_worthOfAll_L4 oO aO p0 n x_5 x_6))
noncomputable def F_X7_worthOfAll (oO : Nat → Int32) (aO : Nat → Nat → Int32) (p0 : Int32) : Int32 :=
  F_X7_worthOfAll_L4 oO aO p0 ((((oO 13).toInt - (0 : Int32).toInt).toNat) + 1) 0 0
set_option maxRecDepth 100000 in
theorem eX7_worthOfAll_1 (oO : Nat → Int32) (aO : Nat → Nat → Int32) (p0 : Int32) (nf : Nat) (v2a : Int32) (v3a : Int32) (c_1 : (oO 13) ≤ v3a) : F_X7_worthOfAll_L4 oO aO p0 (nf + 1) v2a v3a = v2a := by exact (if_pos c_1).trans (rfl)
set_option maxRecDepth 100000 in
theorem eX7_worthOfAll_2 (oO : Nat → Int32) (aO : Nat → Nat → Int32) (p0 : Int32) (nf : Nat) (v2a : Int32) (v3a : Int32) (x_2 : Int32) (x_3 : Int32) (x_5 : Int32) (x_6 : Int32) (ex_2 : x_2 = (p0 >>> (v3a &&& 31))) (ex_3 : x_3 = (x_2 &&& 1)) (ex_5 : x_5 = (v2a + 0)) (ex_6 : x_6 = v3a + 1) (c_1 : ¬ ((oO 13) ≤ v3a)) (c_4 : ¬ (x_3 = 1)) : F_X7_worthOfAll_L4 oO aO p0 (nf + 1) v2a v3a = F_X7_worthOfAll_L4 oO aO p0 nf x_5 x_6 := by subst ex_2 ex_3 ex_5 ex_6; exact (if_neg c_1).trans ((if_neg c_4).trans (rfl))
set_option maxRecDepth 100000 in
theorem eX7_worthOfAll_3 (oO : Nat → Int32) (aO : Nat → Nat → Int32) (p0 : Int32) (nf : Nat) (v2a : Int32) (v3a : Int32) (x_2 : Int32) (x_3 : Int32) (r_7 : Int32) (x_8 : Int32) (x_9 : Int32) (ex_2 : x_2 = (p0 >>> (v3a &&& 31))) (ex_3 : x_3 = (x_2 &&& 1)) (er_7 : r_7 = (F_X7_worthOf oO aO v3a)) (ex_8 : x_8 = (v2a + r_7)) (ex_9 : x_9 = v3a + 1) (c_1 : ¬ ((oO 13) ≤ v3a)) (c_4 : x_3 = 1) : F_X7_worthOfAll_L4 oO aO p0 (nf + 1) v2a v3a = F_X7_worthOfAll_L4 oO aO p0 nf x_8 x_9 := by subst ex_2 ex_3 er_7 ex_8 ex_9; exact (if_neg c_1).trans ((if_pos c_4).trans (rfl))
set_option maxHeartbeats 4000000 in
set_option maxRecDepth 100000 in
theorem c_X7_worthOfAll (l : Launch) (D : va_G) (cI cL : ClassId)   (adO : Nat) (rO : Nat → Nat) (oO : Nat → Int32) (aO : Nat → Nat → Int32) (p0 : Int32) (hLn : 0 ≤ (oO 13).toInt ∧ (oO 13).toInt ≤ 8) : Xi l yX7_worthOfAll (wm yX7_worthOfAll cX7_worthOfAll 4 (some .int)) (xR (2) (46)) D (tyA cI cL) [.ref adO, .int p0] [(adO, .inr (7, [.ref (rO 0), .ref (rO 1), .ref (rO 2), .ref (rO 3), .ref (rO 4), .ref (rO 5), .ref (rO 6), .ref (rO 7), .ref (rO 8), .ref (rO 9), .ref (rO 10), .ref (rO 11), .ref (rO 12), .int (oO 13), .int (oO 14), .int (oO 15), .int (oO 16), .int (oO 17), .int (oO 18), .ref (rO 19), .ref (rO 20), .ref (rO 21), .ref (rO 22), .int (oO 23), .int (oO 24), .int (oO 25), .ref (rO 26), .int (oO 27), .int (oO 28), .int (oO 29), .int (oO 30), .int (oO 31), .int (oO 32), .int (oO 33), .int (oO 34), .int (oO 35), .int (oO 36), .int (oO 37), .ref (rO 38), .ref (rO 39), .ref (rO 40), .int (oO 41), .int (oO 42), .int (oO 43), .ref (rO 44), .int (oO 45)])), ((rO 0), .inl (cI, 7, .inl (aO 0))), ((rO 1), .inl (cI, 8, .inl (aO 1))), ((rO 2), .inl (cI, 8, .inl (aO 2))), ((rO 3), .inl (cI, 8, .inl (aO 3))), ((rO 4), .inl (cI, 8, .inl (aO 4))), ((rO 5), .inl (cI, 4, .inl (aO 5))), ((rO 6), .inl (cI, 4, .inl (aO 6))), ((rO 7), .inl (cI, 4, .inl (aO 7))), ((rO 8), .inl (cI, 4, .inl (aO 8))), ((rO 9), .inl (cI, 4, .inl (aO 9))), ((rO 10), .inl (cI, 4, .inl (aO 10))), ((rO 11), .inl (cI, 4, .inl (aO 11))), ((rO 12), .inl (cI, 4, .inl (aO 12))), ((rO 19), .inl (cI, 96, .inl (aO 19))), ((rO 20), .inl (cI, 48, .inl (aO 20))), ((rO 21), .inl (cI, 48, .inl (aO 21))), ((rO 22), .inl (cI, 192, .inl (aO 22))), ((rO 26), .inl (cI, 160, .inl (aO 26))), ((rO 38), .inl (cI, 54, .inl (aO 38))), ((rO 39), .inl (cI, 9, .inl (aO 39))), ((rO 40), .inl (cI, 9, .inl (aO 40))), ((rO 44), .inl (cI, 12, .inl (aO 44)))] [(adO, .inr (7, [.ref (rO 0), .ref (rO 1), .ref (rO 2), .ref (rO 3), .ref (rO 4), .ref (rO 5), .ref (rO 6), .ref (rO 7), .ref (rO 8), .ref (rO 9), .ref (rO 10), .ref (rO 11), .ref (rO 12), .int (oO 13), .int (oO 14), .int (oO 15), .int (oO 16), .int (oO 17), .int (oO 18), .ref (rO 19), .ref (rO 20), .ref (rO 21), .ref (rO 22), .int (oO 23), .int (oO 24), .int (oO 25), .ref (rO 26), .int (oO 27), .int (oO 28), .int (oO 29), .int (oO 30), .int (oO 31), .int (oO 32), .int (oO 33), .int (oO 34), .int (oO 35), .int (oO 36), .int (oO 37), .ref (rO 38), .ref (rO 39), .ref (rO 40), .int (oO 41), .int (oO 42), .int (oO 43), .ref (rO 44), .int (oO 45)])), ((rO 0), .inl (cI, 7, .inl (aO 0))), ((rO 1), .inl (cI, 8, .inl (aO 1))), ((rO 2), .inl (cI, 8, .inl (aO 2))), ((rO 3), .inl (cI, 8, .inl (aO 3))), ((rO 4), .inl (cI, 8, .inl (aO 4))), ((rO 5), .inl (cI, 4, .inl (aO 5))), ((rO 6), .inl (cI, 4, .inl (aO 6))), ((rO 7), .inl (cI, 4, .inl (aO 7))), ((rO 8), .inl (cI, 4, .inl (aO 8))), ((rO 9), .inl (cI, 4, .inl (aO 9))), ((rO 10), .inl (cI, 4, .inl (aO 10))), ((rO 11), .inl (cI, 4, .inl (aO 11))), ((rO 12), .inl (cI, 4, .inl (aO 12))), ((rO 19), .inl (cI, 96, .inl (aO 19))), ((rO 20), .inl (cI, 48, .inl (aO 20))), ((rO 21), .inl (cI, 48, .inl (aO 21))), ((rO 22), .inl (cI, 192, .inl (aO 22))), ((rO 26), .inl (cI, 160, .inl (aO 26))), ((rO 38), .inl (cI, 54, .inl (aO 38))), ((rO 39), .inl (cI, 9, .inl (aO 39))), ((rO 40), .inl (cI, 9, .inl (aO 40))), ((rO 44), .inl (cI, 12, .inl (aO 44)))] (F_X7_worthOfAll oO aO p0) := by
  intro sz
  refine x_in (cc := cX7_worthOfAll) (maxL := 4) (ret := (some .int)) (by decide) rfl (Nat.le_of_ble_eq_true rfl) (fun p e s m below meth c A ls hfix hr hlocks hN hK hP hAe hD hA hS hl => ?_)
  obtain ⟨hx, hb, hml, hown, hts⟩ := hfix
  rw [← hAe]
  clear hAe
  have hown : s.vm.findClass RX7 = some m.cls := hown
  have htL : ∀ w ∈ wsL_law, w.before ([.ref adO, .int p0] : List Value).toArray s = true := fun w h => hts w (List.mem_cons_of_mem _ h)
  have hl : lv_has ls 4 [(0, .ref adO), (1, .int p0)] := hl
  refine lv_iconst (v := 0) hx hb dX7_worthOfAll_0 (by decide) ?_
  refine lv_istore_n (lv' := [(2, .int 0), (0, .ref adO), (1, .int p0)]) hx hb dX7_worthOfAll_1 rfl hl (by decide) rfl (fun ls hl => ?_)
  refine lv_iconst (v := 0) hx hb dX7_worthOfAll_2 (by decide) ?_
  refine lv_istore_n (lv' := [(3, .int 0), (2, .int 0), (0, .ref adO), (1, .int p0)]) hx hb dX7_worthOfAll_3 rfl hl (by decide) rfl (fun ls hl => ?_)
  have loop : ∀ (nf : Nat) (v2a : Int32) (v3a : Int32) (H : Heap) (locs : List Loc) (ls : Array Slot), 0 ≤ v3a.toInt → ((oO 13).toInt - v3a.toInt).toNat < nf → F_X7_worthOfAll oO aO p0 = F_X7_worthOfAll_L4 oO aO p0 nf v2a v3a → va_P D vwCl [(adO, .inr (7, [.ref (rO 0), .ref (rO 1), .ref (rO 2), .ref (rO 3), .ref (rO 4), .ref (rO 5), .ref (rO 6), .ref (rO 7), .ref (rO 8), .ref (rO 9), .ref (rO 10), .ref (rO 11), .ref (rO 12), .int (oO 13), .int (oO 14), .int (oO 15), .int (oO 16), .int (oO 17), .int (oO 18), .ref (rO 19), .ref (rO 20), .ref (rO 21), .ref (rO 22), .int (oO 23), .int (oO 24), .int (oO 25), .ref (rO 26), .int (oO 27), .int (oO 28), .int (oO 29), .int (oO 30), .int (oO 31), .int (oO 32), .int (oO 33), .int (oO 34), .int (oO 35), .int (oO 36), .int (oO 37), .ref (rO 38), .ref (rO 39), .ref (rO 40), .int (oO 41), .int (oO 42), .int (oO 43), .ref (rO 44), .int (oO 45)])), ((rO 0), .inl (cI, 7, .inl (aO 0))), ((rO 1), .inl (cI, 8, .inl (aO 1))), ((rO 2), .inl (cI, 8, .inl (aO 2))), ((rO 3), .inl (cI, 8, .inl (aO 3))), ((rO 4), .inl (cI, 8, .inl (aO 4))), ((rO 5), .inl (cI, 4, .inl (aO 5))), ((rO 6), .inl (cI, 4, .inl (aO 6))), ((rO 7), .inl (cI, 4, .inl (aO 7))), ((rO 8), .inl (cI, 4, .inl (aO 8))), ((rO 9), .inl (cI, 4, .inl (aO 9))), ((rO 10), .inl (cI, 4, .inl (aO 10))), ((rO 11), .inl (cI, 4, .inl (aO 11))), ((rO 12), .inl (cI, 4, .inl (aO 12))), ((rO 19), .inl (cI, 96, .inl (aO 19))), ((rO 20), .inl (cI, 48, .inl (aO 20))), ((rO 21), .inl (cI, 48, .inl (aO 21))), ((rO 22), .inl (cI, 192, .inl (aO 22))), ((rO 26), .inl (cI, 160, .inl (aO 26))), ((rO 38), .inl (cI, 54, .inl (aO 38))), ((rO 39), .inl (cI, 9, .inl (aO 39))), ((rO 40), .inl (cI, 9, .inl (aO 40))), ((rO 44), .inl (cI, 12, .inl (aO 44)))] H → va_D A [(adO, .inr (7, [.ref (rO 0), .ref (rO 1), .ref (rO 2), .ref (rO 3), .ref (rO 4), .ref (rO 5), .ref (rO 6), .ref (rO 7), .ref (rO 8), .ref (rO 9), .ref (rO 10), .ref (rO 11), .ref (rO 12), .int (oO 13), .int (oO 14), .int (oO 15), .int (oO 16), .int (oO 17), .int (oO 18), .ref (rO 19), .ref (rO 20), .ref (rO 21), .ref (rO 22), .int (oO 23), .int (oO 24), .int (oO 25), .ref (rO 26), .int (oO 27), .int (oO 28), .int (oO 29), .int (oO 30), .int (oO 31), .int (oO 32), .int (oO 33), .int (oO 34), .int (oO 35), .int (oO 36), .int (oO 37), .ref (rO 38), .ref (rO 39), .ref (rO 40), .int (oO 41), .int (oO 42), .int (oO 43), .ref (rO 44), .int (oO 45)])), ((rO 0), .inl (cI, 7, .inl (aO 0))), ((rO 1), .inl (cI, 8, .inl (aO 1))), ((rO 2), .inl (cI, 8, .inl (aO 2))), ((rO 3), .inl (cI, 8, .inl (aO 3))), ((rO 4), .inl (cI, 8, .inl (aO 4))), ((rO 5), .inl (cI, 4, .inl (aO 5))), ((rO 6), .inl (cI, 4, .inl (aO 6))), ((rO 7), .inl (cI, 4, .inl (aO 7))), ((rO 8), .inl (cI, 4, .inl (aO 8))), ((rO 9), .inl (cI, 4, .inl (aO 9))), ((rO 10), .inl (cI, 4, .inl (aO 10))), ((rO 11), .inl (cI, 4, .inl (aO 11))), ((rO 12), .inl (cI, 4, .inl (aO 12))), ((rO 19), .inl (cI, 96, .inl (aO 19))), ((rO 20), .inl (cI, 48, .inl (aO 20))), ((rO 21), .inl (cI, 48, .inl (aO 21))), ((rO 22), .inl (cI, 192, .inl (aO 22))), ((rO 26), .inl (cI, 160, .inl (aO 26))), ((rO 38), .inl (cI, 54, .inl (aO 38))), ((rO 39), .inl (cI, 9, .inl (aO 39))), ((rO 40), .inl (cI, 9, .inl (aO 40))), ((rO 44), .inl (cI, 12, .inl (aO 44)))] → va_S A s.heap H locs → lv_has ls 4 [(3, .int v3a), (2, .int v2a), (0, .ref adO), (1, .int p0)] → W p l e (xR (2) (46)) s m ([.ref adO, .int p0] : List Value).toArray below meth c H locs 0 0 (MQ below (va_Qi (fun (r' : Int32) (_ : Unit) => r' = (F_X7_worthOfAll oO aO p0)) (xE D [(adO, .inr (7, [.ref (rO 0), .ref (rO 1), .ref (rO 2), .ref (rO 3), .ref (rO 4), .ref (rO 5), .ref (rO 6), .ref (rO 7), .ref (rO 8), .ref (rO 9), .ref (rO 10), .ref (rO 11), .ref (rO 12), .int (oO 13), .int (oO 14), .int (oO 15), .int (oO 16), .int (oO 17), .int (oO 18), .ref (rO 19), .ref (rO 20), .ref (rO 21), .ref (rO 22), .int (oO 23), .int (oO 24), .int (oO 25), .ref (rO 26), .int (oO 27), .int (oO 28), .int (oO 29), .int (oO 30), .int (oO 31), .int (oO 32), .int (oO 33), .int (oO 34), .int (oO 35), .int (oO 36), .int (oO 37), .ref (rO 38), .ref (rO 39), .ref (rO 40), .int (oO 41), .int (oO 42), .int (oO 43), .ref (rO 44), .int (oO 45)])), ((rO 0), .inl (cI, 7, .inl (aO 0))), ((rO 1), .inl (cI, 8, .inl (aO 1))), ((rO 2), .inl (cI, 8, .inl (aO 2))), ((rO 3), .inl (cI, 8, .inl (aO 3))), ((rO 4), .inl (cI, 8, .inl (aO 4))), ((rO 5), .inl (cI, 4, .inl (aO 5))), ((rO 6), .inl (cI, 4, .inl (aO 6))), ((rO 7), .inl (cI, 4, .inl (aO 7))), ((rO 8), .inl (cI, 4, .inl (aO 8))), ((rO 9), .inl (cI, 4, .inl (aO 9))), ((rO 10), .inl (cI, 4, .inl (aO 10))), ((rO 11), .inl (cI, 4, .inl (aO 11))), ((rO 12), .inl (cI, 4, .inl (aO 12))), ((rO 19), .inl (cI, 96, .inl (aO 19))), ((rO 20), .inl (cI, 48, .inl (aO 20))), ((rO 21), .inl (cI, 48, .inl (aO 21))), ((rO 22), .inl (cI, 192, .inl (aO 22))), ((rO 26), .inl (cI, 160, .inl (aO 26))), ((rO 38), .inl (cI, 54, .inl (aO 38))), ((rO 39), .inl (cI, 9, .inl (aO 39))), ((rO 40), .inl (cI, 9, .inl (aO 40))), ((rO 44), .inl (cI, 12, .inl (aO 44)))]) A) ([.ref adO, .int p0] : List Value).toArray s 0 0 A) (F0 m 4 ls []) := by
    intro nf
    induction nf with
    | zero => intro v2a v3a H locs ls hi0 hm; exact absurd hm (Nat.not_lt_zero _)
    | succ nf ih =>
      intro v2a v3a H locs ls hi0 hm hF hP hD hS hl
      refine lv_iload_n hx hb dX7_worthOfAll_4 rfl (lv_at hl 0 rfl) ?_
      refine lv_aload_n hx hb dX7_worthOfAll_5 rfl (lv_at hl 2 rfl) ?_
      refine va_get (D := D) (ci := 7) (v := .int (oO 13)) (C := RX7) (T := TX7) (N := 46) hx hb hts (fun _ h => w_in (inlX7 _ h)) hown hK hP 0 rfl rfl 13 (by decide) (htL _ wd_282) (fun _ h9 => h9) rfl dX7_worthOfAll_6 ?_
      refine lv_icmp_ge (tgt := 39) hx hb dX7_worthOfAll_9 (by decide) (fun c_1 => ?_) (fun c_1 => ?_)
      · refine lv_iload_n hx hb dX7_worthOfAll_39 rfl (lv_at hl 1 rfl) ?_
        have hF1 : F_X7_worthOfAll oO aO p0 = v2a := hF.trans (eX7_worthOfAll_1 oO aO p0 nf v2a v3a c_1)
        exact xi_ret hx hb hr hlocks hP hS rfl (congrArg (fun o : Int32 => o) hF1).symm dX7_worthOfAll_40
      · refine lv_iload_n hx hb dX7_worthOfAll_12 rfl (lv_at hl 1 rfl) ?_
        refine lv_iload_n hx hb dX7_worthOfAll_13 rfl (lv_at hl 3 rfl) ?_
        refine lv_iload_n hx hb dX7_worthOfAll_14 rfl (lv_at hl 0 rfl) ?_
        refine lv_ishr hx hb dX7_worthOfAll_15 ?_
        refine lv_topi (fun x_2 ex_2 => ?_)
        refine lv_iconst (v := 1) hx hb dX7_worthOfAll_16 (by decide) ?_
        refine lv_iand hx hb dX7_worthOfAll_17 ?_
        refine lv_topi (fun x_3 ex_3 => ?_)
        refine lv_iconst (v := 1) hx hb dX7_worthOfAll_18 (by decide) ?_
        refine lv_icmp_ne (tgt := 30) hx hb dX7_worthOfAll_19 (by decide) (fun c_4 => ?_) (fun c_4 => ?_)
        · refine lv_iconst (v := 0) hx hb dX7_worthOfAll_30 (by decide) ?_
          refine lv_iadd hx hb dX7_worthOfAll_31 ?_
          refine lv_topi (fun x_5 ex_5 => ?_)
          refine lv_istore_n (lv' := [(2, .int x_5), (3, .int v3a), (0, .ref adO), (1, .int p0)]) hx hb dX7_worthOfAll_32 rfl hl (by decide) rfl (fun ls hl => ?_)
          obtain ⟨x_6, ex_6⟩ : ∃ y : Int32, y = v3a + 1 := ⟨_, rfl⟩
          refine lv_iinc (v := x_6) (lv' := [(3, .int x_6), (2, .int x_5), (0, .ref adO), (1, .int p0)]) hx hb dX7_worthOfAll_33 hl (k := 1) rfl (by rw [ex_6]; rfl) (by decide) rfl (fun ls hl => ?_)
          refine lv_goto (tgt := 4) hx hb dX7_worthOfAll_36 (by decide) ?_
          exact ih x_5 x_6 _ _ _ (by have l0 : (0 : Int32).toInt = 0 := rfl; have l1 : (1 : Int32).toInt = 1 := rfl; have l13 : (13 : Int32).toInt = 13 := rfl; have qc_1 := i_nle c_1; have qc_4 := x_ne c_4; (try have qex_5 := i_add ex_5 (by omega) (by omega)); (try have qex_6 := i_add ex_6 (by omega) (by omega)); omega) (by first | (rw [ex_6]; first | exact x_up (by assumption) hm | exact x_up' (by assumption) hm | exact x_up c_1 hm) | (have l0 : (0 : Int32).toInt = 0 := rfl; have l1 : (1 : Int32).toInt = 1 := rfl; have l13 : (13 : Int32).toInt = 13 := rfl; have qc_1 := i_nle c_1; have qc_4 := x_ne c_4; (try have qex_5 := i_add ex_5 (by omega) (by omega)); (try have qex_6 := i_add ex_6 (by omega) (by omega)); omega)) (hF.trans (eX7_worthOfAll_2 oO aO p0 nf v2a v3a x_2 x_3 x_5 x_6 ex_2 ex_3 ex_5 ex_6 c_1 c_4)) hP hD hS (lv_sub hl [0, 1, 2, 3] rfl)
        · refine lv_aload_n hx hb dX7_worthOfAll_22 rfl (lv_at hl 2 rfl) ?_
          refine lv_iload_n hx hb dX7_worthOfAll_23 rfl (lv_at hl 0 rfl) ?_
          refine x_ci [0, 1, 2, 3, 4, 5, 6, 7, 8, 9, 10, 11, 12, 13, 14, 15, 16, 17, 18, 19, 20, 21, 22] (va_runV (As := [.int v3a]) (rest := [.int v2a]) ⟨hx, hb, hml, hown, hts⟩ (c_X7_worthOf l D cI cL adO rO oO aO v3a (show 0 ≤ v3a.toInt ∧ v3a.toInt < 8 from by first | assumption | decide | (have l0 : (0 : Int32).toInt = 0 := rfl; have l1 : (1 : Int32).toInt = 1 := rfl; have l13 : (13 : Int32).toInt = 13 := rfl; have qc_1 := i_nle c_1; have qc_4 := i_eq c_4; omega)) _) (cwV 1 hts (gv_ok (fun _ h => w_in h) wd_361 wd_358 wd_359 wd_360 wd_5) rfl rfl rfl (by decide +kernel) ⟨Nat.le_of_ble_eq_true rfl, Nat.le_of_ble_eq_true rfl⟩) (x_pv hN hK hP hD [0, 1, 2, 3, 4, 5, 6, 7, 8, 9, 10, 11, 12, 13, 14, 15, 16, 17, 18, 19, 20, 21, 22] rfl rfl (ci := 7) (q0 := 0) rfl rfl) rfl rfl hl.1 rfl (lv_room (Nat.le_of_ble_eq_true rfl)) dX7_worthOfAll_24 ⟨Nat.zero_le _, Nat.zero_le _⟩) hP hD hS hA rfl (fun r_7 H locs er_7 hP hS => ?_)
          refine lv_goto (tgt := 31) hx hb dX7_worthOfAll_27 (by decide) ?_
          refine lv_iadd hx hb dX7_worthOfAll_31 ?_
          refine lv_topi (fun x_8 ex_8 => ?_)
          refine lv_istore_n (lv' := [(2, .int x_8), (3, .int v3a), (0, .ref adO), (1, .int p0)]) hx hb dX7_worthOfAll_32 rfl hl (by decide) rfl (fun ls hl => ?_)
          obtain ⟨x_9, ex_9⟩ : ∃ y : Int32, y = v3a + 1 := ⟨_, rfl⟩
          refine lv_iinc (v := x_9) (lv' := [(3, .int x_9), (2, .int x_8), (0, .ref adO), (1, .int p0)]) hx hb dX7_worthOfAll_33 hl (k := 1) rfl (by rw [ex_9]; rfl) (by decide) rfl (fun ls hl => ?_)
          refine lv_goto (tgt := 4) hx hb dX7_worthOfAll_36 (by decide) ?_
          exact ih x_8 x_9 _ _ _ (by have l0 : (0 : Int32).toInt = 0 := rfl; have l1 : (1 : Int32).toInt = 1 := rfl; have l13 : (13 : Int32).toInt = 13 := rfl; have qc_1 := i_nle c_1; have qc_4 := i_eq c_4; (try have qex_8 := i_add ex_8 (by omega) (by omega)); (try have qex_9 := i_add ex_9 (by omega) (by omega)); omega) (by first | (rw [ex_9]; first | exact x_up (by assumption) hm | exact x_up' (by assumption) hm | exact x_up c_1 hm) | (have l0 : (0 : Int32).toInt = 0 := rfl; have l1 : (1 : Int32).toInt = 1 := rfl; have l13 : (13 : Int32).toInt = 13 := rfl; have qc_1 := i_nle c_1; have qc_4 := i_eq c_4; (try have qex_8 := i_add ex_8 (by omega) (by omega)); (try have qex_9 := i_add ex_9 (by omega) (by omega)); omega)) (hF.trans (eX7_worthOfAll_3 oO aO p0 nf v2a v3a x_2 x_3 r_7 x_8 x_9 ex_2 ex_3 er_7 ex_8 ex_9 c_1 c_4)) hP hD hS (lv_sub hl [0, 1, 2, 3] rfl)
  exact loop ((((oO 13).toInt - (0 : Int32).toInt).toNat) + 1) 0 0 _ _ _ (by first | assumption | (have l0 : (0 : Int32).toInt = 0 := rfl; have l1 : (1 : Int32).toInt = 1 := rfl; omega)) (Nat.lt_succ_self _) rfl hP hD hS hl

noncomputable def F_X7_takesOf (oO : Nat → Int32) (aO : Nat → Nat → Int32) (p0 : Int32) (p1 : Int32) : Int32 :=
  let x_1 : Int32 := ((aO 4) p0.toNatClampNeg)
  let x_2 : Int32 := ((aO 6) p1.toNatClampNeg)
  let x_3 : Int32 := (x_1 * x_2)
  let x_4 : Int32 := ((aO 2) p0.toNatClampNeg)
  if x_4 = 1 then
  (if x_3 ≤ 1 then
  (1)
  else
  (let x_7 : Int32 := (x_3 / 2)
  x_7))
  else
  (if x_4 = 2 then
  (let x_9 : Int32 := ((aO 3) p0.toNatClampNeg)
  let x_10 : Int32 := (x_3 + x_9)
  x_10)
  else
  (if x_4 = 3 then
  (if x_3 ≤ 1 then
  (1)
  else
  (let x_13 : Int32 := (x_3 / 2)
  x_13))
  else
  (if x_4 = 4 then
  (let x_15 : Int32 := ((aO 3) p0.toNatClampNeg)
  let x_16 : Int32 := (x_3 + x_15)
  let x_17 : Int32 := (x_16 + 3)
  x_17)
  else
  (x_3))))
set_option maxRecDepth 100000 in
theorem eX7_takesOf_1 (oO : Nat → Int32) (aO : Nat → Nat → Int32) (p0 : Int32) (p1 : Int32) (x_1 : Int32) (x_2 : Int32) (x_3 : Int32) (x_4 : Int32) (ex_1 : x_1 = ((aO 4) p0.toNatClampNeg)) (ex_2 : x_2 = ((aO 6) p1.toNatClampNeg)) (ex_3 : x_3 = (x_1 * x_2)) (ex_4 : x_4 = ((aO 2) p0.toNatClampNeg)) (c_5 : x_4 = 1) (c_6 : x_3 ≤ 1) : F_X7_takesOf oO aO p0 p1 = 1 := by subst ex_1 ex_2 ex_3 ex_4; exact (if_pos c_5).trans ((if_pos c_6).trans (rfl))
set_option maxRecDepth 100000 in
theorem eX7_takesOf_2 (oO : Nat → Int32) (aO : Nat → Nat → Int32) (p0 : Int32) (p1 : Int32) (x_1 : Int32) (x_2 : Int32) (x_3 : Int32) (x_4 : Int32) (x_7 : Int32) (ex_1 : x_1 = ((aO 4) p0.toNatClampNeg)) (ex_2 : x_2 = ((aO 6) p1.toNatClampNeg)) (ex_3 : x_3 = (x_1 * x_2)) (ex_4 : x_4 = ((aO 2) p0.toNatClampNeg)) (ex_7 : x_7 = (x_3 / 2)) (c_5 : x_4 = 1) (c_6 : ¬ (x_3 ≤ 1)) : F_X7_takesOf oO aO p0 p1 = x_7 := by subst ex_1 ex_2 ex_3 ex_4 ex_7; exact (if_pos c_5).trans ((if_neg c_6).trans (rfl))
set_option maxRecDepth 100000 in
theorem eX7_takesOf_3 (oO : Nat → Int32) (aO : Nat → Nat → Int32) (p0 : Int32) (p1 : Int32) (x_1 : Int32) (x_2 : Int32) (x_3 : Int32) (x_4 : Int32) (x_9 : Int32) (x_10 : Int32) (ex_1 : x_1 = ((aO 4) p0.toNatClampNeg)) (ex_2 : x_2 = ((aO 6) p1.toNatClampNeg)) (ex_3 : x_3 = (x_1 * x_2)) (ex_4 : x_4 = ((aO 2) p0.toNatClampNeg)) (ex_9 : x_9 = ((aO 3) p0.toNatClampNeg)) (ex_10 : x_10 = (x_3 + x_9)) (c_5 : ¬ (x_4 = 1)) (c_8 : x_4 = 2) : F_X7_takesOf oO aO p0 p1 = x_10 := by subst ex_1 ex_2 ex_3 ex_4 ex_9 ex_10; exact (if_neg c_5).trans ((if_pos c_8).trans (rfl))
set_option maxRecDepth 100000 in
theorem eX7_takesOf_4 (oO : Nat → Int32) (aO : Nat → Nat → Int32) (p0 : Int32) (p1 : Int32) (x_1 : Int32) (x_2 : Int32) (x_3 : Int32) (x_4 : Int32) (ex_1 : x_1 = ((aO 4) p0.toNatClampNeg)) (ex_2 : x_2 = ((aO 6) p1.toNatClampNeg)) (ex_3 : x_3 = (x_1 * x_2)) (ex_4 : x_4 = ((aO 2) p0.toNatClampNeg)) (c_5 : ¬ (x_4 = 1)) (c_8 : ¬ (x_4 = 2)) (c_11 : x_4 = 3) (c_12 : x_3 ≤ 1) : F_X7_takesOf oO aO p0 p1 = 1 := by subst ex_1 ex_2 ex_3 ex_4; exact (if_neg c_5).trans ((if_neg c_8).trans ((if_pos c_11).trans ((if_pos c_12).trans (rfl))))
set_option maxRecDepth 100000 in
theorem eX7_takesOf_5 (oO : Nat → Int32) (aO : Nat → Nat → Int32) (p0 : Int32) (p1 : Int32) (x_1 : Int32) (x_2 : Int32) (x_3 : Int32) (x_4 : Int32) (x_13 : Int32) (ex_1 : x_1 = ((aO 4) p0.toNatClampNeg)) (ex_2 : x_2 = ((aO 6) p1.toNatClampNeg)) (ex_3 : x_3 = (x_1 * x_2)) (ex_4 : x_4 = ((aO 2) p0.toNatClampNeg)) (ex_13 : x_13 = (x_3 / 2)) (c_5 : ¬ (x_4 = 1)) (c_8 : ¬ (x_4 = 2)) (c_11 : x_4 = 3) (c_12 : ¬ (x_3 ≤ 1)) : F_X7_takesOf oO aO p0 p1 = x_13 := by subst ex_1 ex_2 ex_3 ex_4 ex_13; exact (if_neg c_5).trans ((if_neg c_8).trans ((if_pos c_11).trans ((if_neg c_12).trans (rfl))))
set_option maxRecDepth 100000 in
theorem eX7_takesOf_6 (oO : Nat → Int32) (aO : Nat → Nat → Int32) (p0 : Int32) (p1 : Int32) (x_1 : Int32) (x_2 : Int32) (x_3 : Int32) (x_4 : Int32) (x_15 : Int32) (x_16 : Int32) (x_17 : Int32) (ex_1 : x_1 = ((aO 4) p0.toNatClampNeg)) (ex_2 : x_2 = ((aO 6) p1.toNatClampNeg)) (ex_3 : x_3 = (x_1 * x_2)) (ex_4 : x_4 = ((aO 2) p0.toNatClampNeg)) (ex_15 : x_15 = ((aO 3) p0.toNatClampNeg)) (ex_16 : x_16 = (x_3 + x_15)) (ex_17 : x_17 = (x_16 + 3)) (c_5 : ¬ (x_4 = 1)) (c_8 : ¬ (x_4 = 2)) (c_11 : ¬ (x_4 = 3)) (c_14 : x_4 = 4) : F_X7_takesOf oO aO p0 p1 = x_17 := by subst ex_1 ex_2 ex_3 ex_4 ex_15 ex_16 ex_17; exact (if_neg c_5).trans ((if_neg c_8).trans ((if_neg c_11).trans ((if_pos c_14).trans (rfl))))
set_option maxRecDepth 100000 in
theorem eX7_takesOf_7 (oO : Nat → Int32) (aO : Nat → Nat → Int32) (p0 : Int32) (p1 : Int32) (x_1 : Int32) (x_2 : Int32) (x_3 : Int32) (x_4 : Int32) (ex_1 : x_1 = ((aO 4) p0.toNatClampNeg)) (ex_2 : x_2 = ((aO 6) p1.toNatClampNeg)) (ex_3 : x_3 = (x_1 * x_2)) (ex_4 : x_4 = ((aO 2) p0.toNatClampNeg)) (c_5 : ¬ (x_4 = 1)) (c_8 : ¬ (x_4 = 2)) (c_11 : ¬ (x_4 = 3)) (c_14 : ¬ (x_4 = 4)) : F_X7_takesOf oO aO p0 p1 = x_3 := by subst ex_1 ex_2 ex_3 ex_4; exact (if_neg c_5).trans ((if_neg c_8).trans ((if_neg c_11).trans ((if_neg c_14).trans (rfl))))
set_option maxHeartbeats 4000000 in
set_option maxRecDepth 100000 in
theorem c_X7_takesOf (l : Launch) (D : va_G) (cI cL : ClassId)   (adO : Nat) (rO : Nat → Nat) (oO : Nat → Int32) (aO : Nat → Nat → Int32) (p0 : Int32) (p1 : Int32) (hl : 0 ≤ p0.toInt ∧ p0.toInt < 8) (hk1 : 0 ≤ p1.toInt ∧ p1.toInt < 4) : Xi l yX7_takesOf (wm yX7_takesOf cX7_takesOf 4 (some .int)) (xR (0) (0)) D (tyA cI cL) [.ref adO, .int p0, .int p1] [(adO, .inr (7, [.ref (rO 0), .ref (rO 1), .ref (rO 2), .ref (rO 3), .ref (rO 4), .ref (rO 5), .ref (rO 6), .ref (rO 7), .ref (rO 8), .ref (rO 9), .ref (rO 10), .ref (rO 11), .ref (rO 12), .int (oO 13), .int (oO 14), .int (oO 15), .int (oO 16), .int (oO 17), .int (oO 18), .ref (rO 19), .ref (rO 20), .ref (rO 21), .ref (rO 22), .int (oO 23), .int (oO 24), .int (oO 25), .ref (rO 26), .int (oO 27), .int (oO 28), .int (oO 29), .int (oO 30), .int (oO 31), .int (oO 32), .int (oO 33), .int (oO 34), .int (oO 35), .int (oO 36), .int (oO 37), .ref (rO 38), .ref (rO 39), .ref (rO 40), .int (oO 41), .int (oO 42), .int (oO 43), .ref (rO 44), .int (oO 45)])), ((rO 0), .inl (cI, 7, .inl (aO 0))), ((rO 1), .inl (cI, 8, .inl (aO 1))), ((rO 2), .inl (cI, 8, .inl (aO 2))), ((rO 3), .inl (cI, 8, .inl (aO 3))), ((rO 4), .inl (cI, 8, .inl (aO 4))), ((rO 5), .inl (cI, 4, .inl (aO 5))), ((rO 6), .inl (cI, 4, .inl (aO 6))), ((rO 7), .inl (cI, 4, .inl (aO 7))), ((rO 8), .inl (cI, 4, .inl (aO 8))), ((rO 9), .inl (cI, 4, .inl (aO 9))), ((rO 10), .inl (cI, 4, .inl (aO 10))), ((rO 11), .inl (cI, 4, .inl (aO 11))), ((rO 12), .inl (cI, 4, .inl (aO 12))), ((rO 19), .inl (cI, 96, .inl (aO 19))), ((rO 20), .inl (cI, 48, .inl (aO 20))), ((rO 21), .inl (cI, 48, .inl (aO 21))), ((rO 22), .inl (cI, 192, .inl (aO 22))), ((rO 26), .inl (cI, 160, .inl (aO 26))), ((rO 38), .inl (cI, 54, .inl (aO 38))), ((rO 39), .inl (cI, 9, .inl (aO 39))), ((rO 40), .inl (cI, 9, .inl (aO 40))), ((rO 44), .inl (cI, 12, .inl (aO 44)))] [(adO, .inr (7, [.ref (rO 0), .ref (rO 1), .ref (rO 2), .ref (rO 3), .ref (rO 4), .ref (rO 5), .ref (rO 6), .ref (rO 7), .ref (rO 8), .ref (rO 9), .ref (rO 10), .ref (rO 11), .ref (rO 12), .int (oO 13), .int (oO 14), .int (oO 15), .int (oO 16), .int (oO 17), .int (oO 18), .ref (rO 19), .ref (rO 20), .ref (rO 21), .ref (rO 22), .int (oO 23), .int (oO 24), .int (oO 25), .ref (rO 26), .int (oO 27), .int (oO 28), .int (oO 29), .int (oO 30), .int (oO 31), .int (oO 32), .int (oO 33), .int (oO 34), .int (oO 35), .int (oO 36), .int (oO 37), .ref (rO 38), .ref (rO 39), .ref (rO 40), .int (oO 41), .int (oO 42), .int (oO 43), .ref (rO 44), .int (oO 45)])), ((rO 0), .inl (cI, 7, .inl (aO 0))), ((rO 1), .inl (cI, 8, .inl (aO 1))), ((rO 2), .inl (cI, 8, .inl (aO 2))), ((rO 3), .inl (cI, 8, .inl (aO 3))), ((rO 4), .inl (cI, 8, .inl (aO 4))), ((rO 5), .inl (cI, 4, .inl (aO 5))), ((rO 6), .inl (cI, 4, .inl (aO 6))), ((rO 7), .inl (cI, 4, .inl (aO 7))), ((rO 8), .inl (cI, 4, .inl (aO 8))), ((rO 9), .inl (cI, 4, .inl (aO 9))), ((rO 10), .inl (cI, 4, .inl (aO 10))), ((rO 11), .inl (cI, 4, .inl (aO 11))), ((rO 12), .inl (cI, 4, .inl (aO 12))), ((rO 19), .inl (cI, 96, .inl (aO 19))), ((rO 20), .inl (cI, 48, .inl (aO 20))), ((rO 21), .inl (cI, 48, .inl (aO 21))), ((rO 22), .inl (cI, 192, .inl (aO 22))), ((rO 26), .inl (cI, 160, .inl (aO 26))), ((rO 38), .inl (cI, 54, .inl (aO 38))), ((rO 39), .inl (cI, 9, .inl (aO 39))), ((rO 40), .inl (cI, 9, .inl (aO 40))), ((rO 44), .inl (cI, 12, .inl (aO 44)))] (F_X7_takesOf oO aO p0 p1) := by
  intro sz
  refine x_in (cc := cX7_takesOf) (maxL := 4) (ret := (some .int)) (by decide) rfl (Nat.le_of_ble_eq_true rfl) (fun p e s m below meth c A ls hfix hr hlocks hN hK hP hAe hD hA hS hl => ?_)
  obtain ⟨hx, hb, hml, hown, hts⟩ := hfix
  rw [← hAe]
  clear hAe
  have hown : s.vm.findClass RX7 = some m.cls := hown
  have htL : ∀ w ∈ wsL_law, w.before ([.ref adO, .int p0, .int p1] : List Value).toArray s = true := fun w h => hts w (List.mem_cons_of_mem _ h)
  have hl : lv_has ls 4 [(0, .ref adO), (1, .int p0), (2, .int p1)] := hl
  refine lv_aload_n hx hb dX7_takesOf_0 rfl (lv_at hl 0 rfl) ?_
  refine va_get (D := D) (ci := 7) (v := .ref (rO 4)) (C := RX7) (T := TX7) (N := 46) hx hb hts (fun _ h => w_in (inlX7 _ h)) hown hK hP 0 rfl rfl 4 (by decide) (htL _ wd_109) (fun _ h9 => h9) rfl dX7_takesOf_1 ?_
  refine lv_iload_n hx hb dX7_takesOf_4 rfl (lv_at hl 1 rfl) ?_
  refine va_iald hx hb hK hP 5 0 rfl rfl (vp_in_iff.mpr (by have l0 : (0 : Int32).toInt = 0 := rfl; have l1 : (1 : Int32).toInt = 1 := rfl; omega)) dX7_takesOf_5 ?_
  refine lv_topi (fun x_1 ex_1 => ?_)
  refine lv_aload_n hx hb dX7_takesOf_6 rfl (lv_at hl 0 rfl) ?_
  refine va_get (D := D) (ci := 7) (v := .ref (rO 6)) (C := RX7) (T := TX7) (N := 46) hx hb hts (fun _ h => w_in (inlX7 _ h)) hown hK hP 0 rfl rfl 6 (by decide) (htL _ wd_111) (fun _ h9 => h9) rfl dX7_takesOf_7 ?_
  refine lv_iload_n hx hb dX7_takesOf_10 rfl (lv_at hl 2 rfl) ?_
  refine va_iald hx hb hK hP 7 0 rfl rfl (vp_in_iff.mpr (by have l0 : (0 : Int32).toInt = 0 := rfl; have l1 : (1 : Int32).toInt = 1 := rfl; have l4 : (4 : Int32).toInt = 4 := rfl; have qex_1 := congrArg Int32.toInt ex_1; omega)) dX7_takesOf_11 ?_
  refine lv_topi (fun x_2 ex_2 => ?_)
  refine lv_imul hx hb dX7_takesOf_12 ?_
  refine lv_topi (fun x_3 ex_3 => ?_)
  refine lv_istore_n (lv' := [(3, .int x_3), (0, .ref adO), (1, .int p0), (2, .int p1)]) hx hb dX7_takesOf_13 rfl hl (by decide) rfl (fun ls hl => ?_)
  refine lv_aload_n hx hb dX7_takesOf_14 rfl (lv_at hl 1 rfl) ?_
  refine va_get (D := D) (ci := 7) (v := .ref (rO 2)) (C := RX7) (T := TX7) (N := 46) hx hb hts (fun _ h => w_in (inlX7 _ h)) hown hK hP 0 rfl rfl 2 (by decide) (htL _ wd_107) (fun _ h9 => h9) rfl dX7_takesOf_15 ?_
  refine lv_iload_n hx hb dX7_takesOf_18 rfl (lv_at hl 2 rfl) ?_
  refine va_iald hx hb hK hP 3 0 rfl rfl (vp_in_iff.mpr (by have l0 : (0 : Int32).toInt = 0 := rfl; have l1 : (1 : Int32).toInt = 1 := rfl; have l4 : (4 : Int32).toInt = 4 := rfl; have l6 : (6 : Int32).toInt = 6 := rfl; have qex_1 := congrArg Int32.toInt ex_1; have qex_2 := congrArg Int32.toInt ex_2; omega)) dX7_takesOf_19 ?_
  refine lv_topi (fun x_4 ex_4 => ?_)
  by_cases c_5 : x_4 = 1
  · refine lv_tableIn (off := 32) (tgt := 52) hx hb dX7_takesOf_20 (by rw [c_5]; decide) (by rw [c_5]; decide) (by rw [c_5]; rfl) (by decide) ?_
    refine lv_iload_n hx hb dX7_takesOf_52 rfl (lv_at hl 0 rfl) ?_
    refine lv_iconst (v := 1) hx hb dX7_takesOf_53 (by decide) ?_
    refine lv_icmp_le (tgt := 63) hx hb dX7_takesOf_54 (by decide) (fun c_6 => ?_) (fun c_6 => ?_)
    · refine lv_iconst (v := 1) hx hb dX7_takesOf_63 (by decide) ?_
      have hF1 : F_X7_takesOf oO aO p0 p1 = 1 := (eX7_takesOf_1 oO aO p0 p1 x_1 x_2 x_3 x_4 ex_1 ex_2 ex_3 ex_4 c_5 c_6)
      exact xi_ret hx hb hr hlocks hP hS rfl (congrArg (fun o : Int32 => o) hF1).symm dX7_takesOf_64
    · refine lv_iload_n hx hb dX7_takesOf_57 rfl (lv_at hl 0 rfl) ?_
      refine lv_iconst (v := 2) hx hb dX7_takesOf_58 (by decide) ?_
      refine lv_idiv hx hb dX7_takesOf_59 (by decide) ?_
      refine lv_topi (fun x_7 ex_7 => ?_)
      refine lv_goto (tgt := 64) hx hb dX7_takesOf_60 (by decide) ?_
      have hF1 : F_X7_takesOf oO aO p0 p1 = x_7 := (eX7_takesOf_2 oO aO p0 p1 x_1 x_2 x_3 x_4 x_7 ex_1 ex_2 ex_3 ex_4 ex_7 c_5 c_6)
      exact xi_ret hx hb hr hlocks hP hS rfl (congrArg (fun o : Int32 => o) hF1).symm dX7_takesOf_64
  · by_cases c_8 : x_4 = 2
    · refine lv_tableIn (off := 45) (tgt := 65) hx hb dX7_takesOf_20 (by rw [c_8]; decide) (by rw [c_8]; decide) (by rw [c_8]; rfl) (by decide) ?_
      refine lv_iload_n hx hb dX7_takesOf_65 rfl (lv_at hl 0 rfl) ?_
      refine lv_aload_n hx hb dX7_takesOf_66 rfl (lv_at hl 1 rfl) ?_
      refine va_get (D := D) (ci := 7) (v := .ref (rO 3)) (C := RX7) (T := TX7) (N := 46) hx hb hts (fun _ h => w_in (inlX7 _ h)) hown hK hP 0 rfl rfl 3 (by decide) (htL _ wd_108) (fun _ h9 => h9) rfl dX7_takesOf_67 ?_
      refine lv_iload_n hx hb dX7_takesOf_70 rfl (lv_at hl 2 rfl) ?_
      refine va_iald hx hb hK hP 4 0 rfl rfl (vp_in_iff.mpr (by have l0 : (0 : Int32).toInt = 0 := rfl; have l1 : (1 : Int32).toInt = 1 := rfl; have l2 : (2 : Int32).toInt = 2 := rfl; have l4 : (4 : Int32).toInt = 4 := rfl; have l6 : (6 : Int32).toInt = 6 := rfl; have qex_1 := congrArg Int32.toInt ex_1; have qex_2 := congrArg Int32.toInt ex_2; have qex_4 := congrArg Int32.toInt ex_4; have qc_5 := x_ne c_5; have qc_8 := i_eq c_8; omega)) dX7_takesOf_71 ?_
      refine lv_topi (fun x_9 ex_9 => ?_)
      refine lv_iadd hx hb dX7_takesOf_72 ?_
      refine lv_topi (fun x_10 ex_10 => ?_)
      have hF1 : F_X7_takesOf oO aO p0 p1 = x_10 := (eX7_takesOf_3 oO aO p0 p1 x_1 x_2 x_3 x_4 x_9 x_10 ex_1 ex_2 ex_3 ex_4 ex_9 ex_10 c_5 c_8)
      exact xi_ret hx hb hr hlocks hP hS rfl (congrArg (fun o : Int32 => o) hF1).symm dX7_takesOf_73
    · by_cases c_11 : x_4 = 3
      · refine lv_tableIn (off := 32) (tgt := 52) hx hb dX7_takesOf_20 (by rw [c_11]; decide) (by rw [c_11]; decide) (by rw [c_11]; rfl) (by decide) ?_
        refine lv_iload_n hx hb dX7_takesOf_52 rfl (lv_at hl 0 rfl) ?_
        refine lv_iconst (v := 1) hx hb dX7_takesOf_53 (by decide) ?_
        refine lv_icmp_le (tgt := 63) hx hb dX7_takesOf_54 (by decide) (fun c_12 => ?_) (fun c_12 => ?_)
        · refine lv_iconst (v := 1) hx hb dX7_takesOf_63 (by decide) ?_
          have hF1 : F_X7_takesOf oO aO p0 p1 = 1 := (eX7_takesOf_4 oO aO p0 p1 x_1 x_2 x_3 x_4 ex_1 ex_2 ex_3 ex_4 c_5 c_8 c_11 c_12)
          exact xi_ret hx hb hr hlocks hP hS rfl (congrArg (fun o : Int32 => o) hF1).symm dX7_takesOf_64
        · refine lv_iload_n hx hb dX7_takesOf_57 rfl (lv_at hl 0 rfl) ?_
          refine lv_iconst (v := 2) hx hb dX7_takesOf_58 (by decide) ?_
          refine lv_idiv hx hb dX7_takesOf_59 (by decide) ?_
          refine lv_topi (fun x_13 ex_13 => ?_)
          refine lv_goto (tgt := 64) hx hb dX7_takesOf_60 (by decide) ?_
          have hF1 : F_X7_takesOf oO aO p0 p1 = x_13 := (eX7_takesOf_5 oO aO p0 p1 x_1 x_2 x_3 x_4 x_13 ex_1 ex_2 ex_3 ex_4 ex_13 c_5 c_8 c_11 c_12)
          exact xi_ret hx hb hr hlocks hP hS rfl (congrArg (fun o : Int32 => o) hF1).symm dX7_takesOf_64
      · by_cases c_14 : x_4 = 4
        · refine lv_tableIn (off := 54) (tgt := 74) hx hb dX7_takesOf_20 (by rw [c_14]; decide) (by rw [c_14]; decide) (by rw [c_14]; rfl) (by decide) ?_
          refine lv_iload_n hx hb dX7_takesOf_74 rfl (lv_at hl 0 rfl) ?_
          refine lv_aload_n hx hb dX7_takesOf_75 rfl (lv_at hl 1 rfl) ?_
          refine va_get (D := D) (ci := 7) (v := .ref (rO 3)) (C := RX7) (T := TX7) (N := 46) hx hb hts (fun _ h => w_in (inlX7 _ h)) hown hK hP 0 rfl rfl 3 (by decide) (htL _ wd_108) (fun _ h9 => h9) rfl dX7_takesOf_76 ?_
          refine lv_iload_n hx hb dX7_takesOf_79 rfl (lv_at hl 2 rfl) ?_
          refine va_iald hx hb hK hP 4 0 rfl rfl (vp_in_iff.mpr (by have l0 : (0 : Int32).toInt = 0 := rfl; have l1 : (1 : Int32).toInt = 1 := rfl; have l2 : (2 : Int32).toInt = 2 := rfl; have l3 : (3 : Int32).toInt = 3 := rfl; have l4 : (4 : Int32).toInt = 4 := rfl; have l6 : (6 : Int32).toInt = 6 := rfl; have qex_1 := congrArg Int32.toInt ex_1; have qex_2 := congrArg Int32.toInt ex_2; have qex_4 := congrArg Int32.toInt ex_4; have qc_5 := x_ne c_5; have qc_8 := x_ne c_8; have qc_11 := x_ne c_11; have qc_14 := i_eq c_14; omega)) dX7_takesOf_80 ?_
          refine lv_topi (fun x_15 ex_15 => ?_)
          refine lv_iadd hx hb dX7_takesOf_81 ?_
          refine lv_topi (fun x_16 ex_16 => ?_)
          refine lv_iconst (v := 3) hx hb dX7_takesOf_82 (by decide) ?_
          refine lv_iadd hx hb dX7_takesOf_83 ?_
          refine lv_topi (fun x_17 ex_17 => ?_)
          have hF1 : F_X7_takesOf oO aO p0 p1 = x_17 := (eX7_takesOf_6 oO aO p0 p1 x_1 x_2 x_3 x_4 x_15 x_16 x_17 ex_1 ex_2 ex_3 ex_4 ex_15 ex_16 ex_17 c_5 c_8 c_11 c_14)
          exact xi_ret hx hb hr hlocks hP hS rfl (congrArg (fun o : Int32 => o) hF1).symm dX7_takesOf_84
        · refine lv_tableOut (tgt := 85) hx hb dX7_takesOf_20 (by have hn0 := x_nk (z := 1) c_5 rfl; have hn1 := x_nk (z := 2) c_8 rfl; have hn2 := x_nk (z := 3) c_11 rfl; have hn3 := x_nk (z := 4) c_14 rfl; omega) (by decide) ?_
          refine lv_iload_n hx hb dX7_takesOf_85 rfl (lv_at hl 0 rfl) ?_
          have hF1 : F_X7_takesOf oO aO p0 p1 = x_3 := (eX7_takesOf_7 oO aO p0 p1 x_1 x_2 x_3 x_4 ex_1 ex_2 ex_3 ex_4 c_5 c_8 c_11 c_14)
          exact xi_ret hx hb hr hlocks hP hS rfl (congrArg (fun o : Int32 => o) hF1).symm dX7_takesOf_86

noncomputable def F_X7_turnsFor (oO : Nat → Int32) (aO : Nat → Nat → Int32) (p0 : Int32) : Int32 :=
  if (oO 15) = 1 then
  (let x_2 : Int32 := (3 * (oO 16))
  let x_3 : Int32 := ((oO 17) + x_2)
  if 0 ≤ x_3 then
  (x_3)
  else
  (0))
  else
  (if (oO 15) = 2 then
  (let x_6 : Int32 := (3 * (oO 16))
  let x_7 : Int32 := (5 * p0)
  let x_8 : Int32 := (x_6 + x_7)
  let x_9 : Int32 := ((oO 17) + x_8)
  if 0 ≤ x_9 then
  (x_9)
  else
  (0))
  else
  (if (oO 15) = 3 then
  (let x_12 : Int32 := (4 * p0)
  let x_13 : Int32 := ((oO 17) - x_12)
  if 0 ≤ x_13 then
  (x_13)
  else
  (0))
  else
  (if (oO 15) = 4 then
  (let x_16 : Int32 := (4 * p0)
  let x_17 : Int32 := (x_16 + (oO 16))
  let x_18 : Int32 := ((oO 17) - x_17)
  if 0 ≤ x_18 then
  (x_18)
  else
  (0))
  else
  (if 0 ≤ (oO 17) then
  ((oO 17))
  else
  (0)))))
set_option maxRecDepth 100000 in
theorem eX7_turnsFor_1 (oO : Nat → Int32) (aO : Nat → Nat → Int32) (p0 : Int32) (x_2 : Int32) (x_3 : Int32) (ex_2 : x_2 = (3 * (oO 16))) (ex_3 : x_3 = ((oO 17) + x_2)) (c_1 : (oO 15) = 1) (c_4 : 0 ≤ x_3) : F_X7_turnsFor oO aO p0 = x_3 := by subst ex_2 ex_3; exact (if_pos c_1).trans ((if_pos c_4).trans (rfl))
set_option maxRecDepth 100000 in
theorem eX7_turnsFor_2 (oO : Nat → Int32) (aO : Nat → Nat → Int32) (p0 : Int32) (x_2 : Int32) (x_3 : Int32) (ex_2 : x_2 = (3 * (oO 16))) (ex_3 : x_3 = ((oO 17) + x_2)) (c_1 : (oO 15) = 1) (c_4 : ¬ (0 ≤ x_3)) : F_X7_turnsFor oO aO p0 = 0 := by subst ex_2 ex_3; exact (if_pos c_1).trans ((if_neg c_4).trans (rfl))
set_option maxRecDepth 100000 in
theorem eX7_turnsFor_3 (oO : Nat → Int32) (aO : Nat → Nat → Int32) (p0 : Int32) (x_6 : Int32) (x_7 : Int32) (x_8 : Int32) (x_9 : Int32) (ex_6 : x_6 = (3 * (oO 16))) (ex_7 : x_7 = (5 * p0)) (ex_8 : x_8 = (x_6 + x_7)) (ex_9 : x_9 = ((oO 17) + x_8)) (c_1 : ¬ ((oO 15) = 1)) (c_5 : (oO 15) = 2) (c_10 : 0 ≤ x_9) : F_X7_turnsFor oO aO p0 = x_9 := by subst ex_6 ex_7 ex_8 ex_9; exact (if_neg c_1).trans ((if_pos c_5).trans ((if_pos c_10).trans (rfl)))
set_option maxRecDepth 100000 in
theorem eX7_turnsFor_4 (oO : Nat → Int32) (aO : Nat → Nat → Int32) (p0 : Int32) (x_6 : Int32) (x_7 : Int32) (x_8 : Int32) (x_9 : Int32) (ex_6 : x_6 = (3 * (oO 16))) (ex_7 : x_7 = (5 * p0)) (ex_8 : x_8 = (x_6 + x_7)) (ex_9 : x_9 = ((oO 17) + x_8)) (c_1 : ¬ ((oO 15) = 1)) (c_5 : (oO 15) = 2) (c_10 : ¬ (0 ≤ x_9)) : F_X7_turnsFor oO aO p0 = 0 := by subst ex_6 ex_7 ex_8 ex_9; exact (if_neg c_1).trans ((if_pos c_5).trans ((if_neg c_10).trans (rfl)))
set_option maxRecDepth 100000 in
theorem eX7_turnsFor_5 (oO : Nat → Int32) (aO : Nat → Nat → Int32) (p0 : Int32) (x_12 : Int32) (x_13 : Int32) (ex_12 : x_12 = (4 * p0)) (ex_13 : x_13 = ((oO 17) - x_12)) (c_1 : ¬ ((oO 15) = 1)) (c_5 : ¬ ((oO 15) = 2)) (c_11 : (oO 15) = 3) (c_14 : 0 ≤ x_13) : F_X7_turnsFor oO aO p0 = x_13 := by subst ex_12 ex_13; exact (if_neg c_1).trans ((if_neg c_5).trans ((if_pos c_11).trans ((if_pos c_14).trans (rfl))))
set_option maxRecDepth 100000 in
theorem eX7_turnsFor_6 (oO : Nat → Int32) (aO : Nat → Nat → Int32) (p0 : Int32) (x_12 : Int32) (x_13 : Int32) (ex_12 : x_12 = (4 * p0)) (ex_13 : x_13 = ((oO 17) - x_12)) (c_1 : ¬ ((oO 15) = 1)) (c_5 : ¬ ((oO 15) = 2)) (c_11 : (oO 15) = 3) (c_14 : ¬ (0 ≤ x_13)) : F_X7_turnsFor oO aO p0 = 0 := by subst ex_12 ex_13; exact (if_neg c_1).trans ((if_neg c_5).trans ((if_pos c_11).trans ((if_neg c_14).trans (rfl))))
set_option maxRecDepth 100000 in
theorem eX7_turnsFor_7 (oO : Nat → Int32) (aO : Nat → Nat → Int32) (p0 : Int32) (x_16 : Int32) (x_17 : Int32) (x_18 : Int32) (ex_16 : x_16 = (4 * p0)) (ex_17 : x_17 = (x_16 + (oO 16))) (ex_18 : x_18 = ((oO 17) - x_17)) (c_1 : ¬ ((oO 15) = 1)) (c_5 : ¬ ((oO 15) = 2)) (c_11 : ¬ ((oO 15) = 3)) (c_15 : (oO 15) = 4) (c_19 : 0 ≤ x_18) : F_X7_turnsFor oO aO p0 = x_18 := by subst ex_16 ex_17 ex_18; exact (if_neg c_1).trans ((if_neg c_5).trans ((if_neg c_11).trans ((if_pos c_15).trans ((if_pos c_19).trans (rfl)))))
set_option maxRecDepth 100000 in
theorem eX7_turnsFor_8 (oO : Nat → Int32) (aO : Nat → Nat → Int32) (p0 : Int32) (x_16 : Int32) (x_17 : Int32) (x_18 : Int32) (ex_16 : x_16 = (4 * p0)) (ex_17 : x_17 = (x_16 + (oO 16))) (ex_18 : x_18 = ((oO 17) - x_17)) (c_1 : ¬ ((oO 15) = 1)) (c_5 : ¬ ((oO 15) = 2)) (c_11 : ¬ ((oO 15) = 3)) (c_15 : (oO 15) = 4) (c_19 : ¬ (0 ≤ x_18)) : F_X7_turnsFor oO aO p0 = 0 := by subst ex_16 ex_17 ex_18; exact (if_neg c_1).trans ((if_neg c_5).trans ((if_neg c_11).trans ((if_pos c_15).trans ((if_neg c_19).trans (rfl)))))
set_option maxRecDepth 100000 in
theorem eX7_turnsFor_9 (oO : Nat → Int32) (aO : Nat → Nat → Int32) (p0 : Int32) (c_1 : ¬ ((oO 15) = 1)) (c_5 : ¬ ((oO 15) = 2)) (c_11 : ¬ ((oO 15) = 3)) (c_15 : ¬ ((oO 15) = 4)) (c_20 : 0 ≤ (oO 17)) : F_X7_turnsFor oO aO p0 = (oO 17) := by exact (if_neg c_1).trans ((if_neg c_5).trans ((if_neg c_11).trans ((if_neg c_15).trans ((if_pos c_20).trans (rfl)))))
set_option maxRecDepth 100000 in
theorem eX7_turnsFor_10 (oO : Nat → Int32) (aO : Nat → Nat → Int32) (p0 : Int32) (c_1 : ¬ ((oO 15) = 1)) (c_5 : ¬ ((oO 15) = 2)) (c_11 : ¬ ((oO 15) = 3)) (c_15 : ¬ ((oO 15) = 4)) (c_20 : ¬ (0 ≤ (oO 17))) : F_X7_turnsFor oO aO p0 = 0 := by exact (if_neg c_1).trans ((if_neg c_5).trans ((if_neg c_11).trans ((if_neg c_15).trans ((if_neg c_20).trans (rfl)))))
set_option maxHeartbeats 4000000 in
set_option maxRecDepth 100000 in
theorem c_X7_turnsFor (l : Launch) (D : va_G) (cI cL : ClassId)   (adO : Nat) (rO : Nat → Nat) (oO : Nat → Int32) (aO : Nat → Nat → Int32) (p0 : Int32)  : Xi l yX7_turnsFor (wm yX7_turnsFor cX7_turnsFor 3 (some .int)) (xR (0) (0)) D (tyA cI cL) [.ref adO, .int p0] [(adO, .inr (7, [.ref (rO 0), .ref (rO 1), .ref (rO 2), .ref (rO 3), .ref (rO 4), .ref (rO 5), .ref (rO 6), .ref (rO 7), .ref (rO 8), .ref (rO 9), .ref (rO 10), .ref (rO 11), .ref (rO 12), .int (oO 13), .int (oO 14), .int (oO 15), .int (oO 16), .int (oO 17), .int (oO 18), .ref (rO 19), .ref (rO 20), .ref (rO 21), .ref (rO 22), .int (oO 23), .int (oO 24), .int (oO 25), .ref (rO 26), .int (oO 27), .int (oO 28), .int (oO 29), .int (oO 30), .int (oO 31), .int (oO 32), .int (oO 33), .int (oO 34), .int (oO 35), .int (oO 36), .int (oO 37), .ref (rO 38), .ref (rO 39), .ref (rO 40), .int (oO 41), .int (oO 42), .int (oO 43), .ref (rO 44), .int (oO 45)])), ((rO 0), .inl (cI, 7, .inl (aO 0))), ((rO 1), .inl (cI, 8, .inl (aO 1))), ((rO 2), .inl (cI, 8, .inl (aO 2))), ((rO 3), .inl (cI, 8, .inl (aO 3))), ((rO 4), .inl (cI, 8, .inl (aO 4))), ((rO 5), .inl (cI, 4, .inl (aO 5))), ((rO 6), .inl (cI, 4, .inl (aO 6))), ((rO 7), .inl (cI, 4, .inl (aO 7))), ((rO 8), .inl (cI, 4, .inl (aO 8))), ((rO 9), .inl (cI, 4, .inl (aO 9))), ((rO 10), .inl (cI, 4, .inl (aO 10))), ((rO 11), .inl (cI, 4, .inl (aO 11))), ((rO 12), .inl (cI, 4, .inl (aO 12))), ((rO 19), .inl (cI, 96, .inl (aO 19))), ((rO 20), .inl (cI, 48, .inl (aO 20))), ((rO 21), .inl (cI, 48, .inl (aO 21))), ((rO 22), .inl (cI, 192, .inl (aO 22))), ((rO 26), .inl (cI, 160, .inl (aO 26))), ((rO 38), .inl (cI, 54, .inl (aO 38))), ((rO 39), .inl (cI, 9, .inl (aO 39))), ((rO 40), .inl (cI, 9, .inl (aO 40))), ((rO 44), .inl (cI, 12, .inl (aO 44)))] [(adO, .inr (7, [.ref (rO 0), .ref (rO 1), .ref (rO 2), .ref (rO 3), .ref (rO 4), .ref (rO 5), .ref (rO 6), .ref (rO 7), .ref (rO 8), .ref (rO 9), .ref (rO 10), .ref (rO 11), .ref (rO 12), .int (oO 13), .int (oO 14), .int (oO 15), .int (oO 16), .int (oO 17), .int (oO 18), .ref (rO 19), .ref (rO 20), .ref (rO 21), .ref (rO 22), .int (oO 23), .int (oO 24), .int (oO 25), .ref (rO 26), .int (oO 27), .int (oO 28), .int (oO 29), .int (oO 30), .int (oO 31), .int (oO 32), .int (oO 33), .int (oO 34), .int (oO 35), .int (oO 36), .int (oO 37), .ref (rO 38), .ref (rO 39), .ref (rO 40), .int (oO 41), .int (oO 42), .int (oO 43), .ref (rO 44), .int (oO 45)])), ((rO 0), .inl (cI, 7, .inl (aO 0))), ((rO 1), .inl (cI, 8, .inl (aO 1))), ((rO 2), .inl (cI, 8, .inl (aO 2))), ((rO 3), .inl (cI, 8, .inl (aO 3))), ((rO 4), .inl (cI, 8, .inl (aO 4))), ((rO 5), .inl (cI, 4, .inl (aO 5))), ((rO 6), .inl (cI, 4, .inl (aO 6))), ((rO 7), .inl (cI, 4, .inl (aO 7))), ((rO 8), .inl (cI, 4, .inl (aO 8))), ((rO 9), .inl (cI, 4, .inl (aO 9))), ((rO 10), .inl (cI, 4, .inl (aO 10))), ((rO 11), .inl (cI, 4, .inl (aO 11))), ((rO 12), .inl (cI, 4, .inl (aO 12))), ((rO 19), .inl (cI, 96, .inl (aO 19))), ((rO 20), .inl (cI, 48, .inl (aO 20))), ((rO 21), .inl (cI, 48, .inl (aO 21))), ((rO 22), .inl (cI, 192, .inl (aO 22))), ((rO 26), .inl (cI, 160, .inl (aO 26))), ((rO 38), .inl (cI, 54, .inl (aO 38))), ((rO 39), .inl (cI, 9, .inl (aO 39))), ((rO 40), .inl (cI, 9, .inl (aO 40))), ((rO 44), .inl (cI, 12, .inl (aO 44)))] (F_X7_turnsFor oO aO p0) := by
  intro sz
  refine x_in (cc := cX7_turnsFor) (maxL := 3) (ret := (some .int)) (by decide) rfl (Nat.le_of_ble_eq_true rfl) (fun p e s m below meth c A ls hfix hr hlocks hN hK hP hAe hD hA hS hl => ?_)
  obtain ⟨hx, hb, hml, hown, hts⟩ := hfix
  rw [← hAe]
  clear hAe
  have hown : s.vm.findClass RX7 = some m.cls := hown
  have htL : ∀ w ∈ wsL_law, w.before ([.ref adO, .int p0] : List Value).toArray s = true := fun w h => hts w (List.mem_cons_of_mem _ h)
  have hl : lv_has ls 3 [(0, .ref adO), (1, .int p0)] := hl
  refine lv_aload_n hx hb dX7_turnsFor_0 rfl (lv_at hl 0 rfl) ?_
  refine va_get (D := D) (ci := 7) (v := .int (oO 17)) (C := RX7) (T := TX7) (N := 46) hx hb hts (fun _ h => w_in (inlX7 _ h)) hown hK hP 0 rfl rfl 17 (by decide) (htL _ wd_118) (fun _ h9 => h9) rfl dX7_turnsFor_1 ?_
  refine lv_istore_n (lv' := [(2, .int (oO 17)), (0, .ref adO), (1, .int p0)]) hx hb dX7_turnsFor_4 rfl hl (by decide) rfl (fun ls hl => ?_)
  refine lv_aload_n hx hb dX7_turnsFor_5 rfl (lv_at hl 1 rfl) ?_
  refine va_get (D := D) (ci := 7) (v := .int (oO 15)) (C := RX7) (T := TX7) (N := 46) hx hb hts (fun _ h => w_in (inlX7 _ h)) hown hK hP 0 rfl rfl 15 (by decide) (htL _ wd_284) (fun _ h9 => h9) rfl dX7_turnsFor_6 ?_
  by_cases c_1 : (oO 15) = 1
  · refine lv_tableIn (off := 31) (tgt := 40) hx hb dX7_turnsFor_9 (by rw [c_1]; decide) (by rw [c_1]; decide) (by rw [c_1]; rfl) (by decide) ?_
    refine lv_iload_n hx hb dX7_turnsFor_40 rfl (lv_at hl 0 rfl) ?_
    refine lv_iconst (v := 3) hx hb dX7_turnsFor_41 (by decide) ?_
    refine lv_aload_n hx hb dX7_turnsFor_42 rfl (lv_at hl 1 rfl) ?_
    refine va_get (D := D) (ci := 7) (v := .int (oO 16)) (C := RX7) (T := TX7) (N := 46) hx hb hts (fun _ h => w_in (inlX7 _ h)) hown hK hP 0 rfl rfl 16 (by decide) (htL _ wd_285) (fun _ h9 => h9) rfl dX7_turnsFor_43 ?_
    refine lv_imul hx hb dX7_turnsFor_46 ?_
    refine lv_topi (fun x_2 ex_2 => ?_)
    refine lv_iadd hx hb dX7_turnsFor_47 ?_
    refine lv_topi (fun x_3 ex_3 => ?_)
    refine lv_istore_n (lv' := [(2, .int x_3), (0, .ref adO), (1, .int p0)]) hx hb dX7_turnsFor_48 rfl hl (by decide) rfl (fun ls hl => ?_)
    refine lv_goto (tgt := 91) hx hb dX7_turnsFor_49 (by decide) ?_
    refine lv_iload_n hx hb dX7_turnsFor_91 rfl (lv_at hl 0 rfl) ?_
    refine lv_if_ge (tgt := 99) hx hb dX7_turnsFor_92 (by decide) (fun c_4 => ?_) (fun c_4 => ?_)
    · refine lv_iload_n hx hb dX7_turnsFor_99 rfl (lv_at hl 0 rfl) ?_
      have hF1 : F_X7_turnsFor oO aO p0 = x_3 := (eX7_turnsFor_1 oO aO p0 x_2 x_3 ex_2 ex_3 c_1 c_4)
      exact xi_ret hx hb hr hlocks hP hS rfl (congrArg (fun o : Int32 => o) hF1).symm dX7_turnsFor_100
    · refine lv_iconst (v := 0) hx hb dX7_turnsFor_95 (by decide) ?_
      refine lv_goto (tgt := 100) hx hb dX7_turnsFor_96 (by decide) ?_
      have hF1 : F_X7_turnsFor oO aO p0 = 0 := (eX7_turnsFor_2 oO aO p0 x_2 x_3 ex_2 ex_3 c_1 c_4)
      exact xi_ret hx hb hr hlocks hP hS rfl (congrArg (fun o : Int32 => o) hF1).symm dX7_turnsFor_100
  · by_cases c_5 : (oO 15) = 2
    · refine lv_tableIn (off := 43) (tgt := 52) hx hb dX7_turnsFor_9 (by rw [c_5]; decide) (by rw [c_5]; decide) (by rw [c_5]; rfl) (by decide) ?_
      refine lv_iload_n hx hb dX7_turnsFor_52 rfl (lv_at hl 0 rfl) ?_
      refine lv_iconst (v := 3) hx hb dX7_turnsFor_53 (by decide) ?_
      refine lv_aload_n hx hb dX7_turnsFor_54 rfl (lv_at hl 1 rfl) ?_
      refine va_get (D := D) (ci := 7) (v := .int (oO 16)) (C := RX7) (T := TX7) (N := 46) hx hb hts (fun _ h => w_in (inlX7 _ h)) hown hK hP 0 rfl rfl 16 (by decide) (htL _ wd_285) (fun _ h9 => h9) rfl dX7_turnsFor_55 ?_
      refine lv_imul hx hb dX7_turnsFor_58 ?_
      refine lv_topi (fun x_6 ex_6 => ?_)
      refine lv_iconst (v := 5) hx hb dX7_turnsFor_59 (by decide) ?_
      refine lv_iload_n hx hb dX7_turnsFor_60 rfl (lv_at hl 2 rfl) ?_
      refine lv_imul hx hb dX7_turnsFor_61 ?_
      refine lv_topi (fun x_7 ex_7 => ?_)
      refine lv_iadd hx hb dX7_turnsFor_62 ?_
      refine lv_topi (fun x_8 ex_8 => ?_)
      refine lv_iadd hx hb dX7_turnsFor_63 ?_
      refine lv_topi (fun x_9 ex_9 => ?_)
      refine lv_istore_n (lv' := [(2, .int x_9), (0, .ref adO), (1, .int p0)]) hx hb dX7_turnsFor_64 rfl hl (by decide) rfl (fun ls hl => ?_)
      refine lv_goto (tgt := 91) hx hb dX7_turnsFor_65 (by decide) ?_
      refine lv_iload_n hx hb dX7_turnsFor_91 rfl (lv_at hl 0 rfl) ?_
      refine lv_if_ge (tgt := 99) hx hb dX7_turnsFor_92 (by decide) (fun c_10 => ?_) (fun c_10 => ?_)
      · refine lv_iload_n hx hb dX7_turnsFor_99 rfl (lv_at hl 0 rfl) ?_
        have hF1 : F_X7_turnsFor oO aO p0 = x_9 := (eX7_turnsFor_3 oO aO p0 x_6 x_7 x_8 x_9 ex_6 ex_7 ex_8 ex_9 c_1 c_5 c_10)
        exact xi_ret hx hb hr hlocks hP hS rfl (congrArg (fun o : Int32 => o) hF1).symm dX7_turnsFor_100
      · refine lv_iconst (v := 0) hx hb dX7_turnsFor_95 (by decide) ?_
        refine lv_goto (tgt := 100) hx hb dX7_turnsFor_96 (by decide) ?_
        have hF1 : F_X7_turnsFor oO aO p0 = 0 := (eX7_turnsFor_4 oO aO p0 x_6 x_7 x_8 x_9 ex_6 ex_7 ex_8 ex_9 c_1 c_5 c_10)
        exact xi_ret hx hb hr hlocks hP hS rfl (congrArg (fun o : Int32 => o) hF1).symm dX7_turnsFor_100
    · by_cases c_11 : (oO 15) = 3
      · refine lv_tableIn (off := 59) (tgt := 68) hx hb dX7_turnsFor_9 (by rw [c_11]; decide) (by rw [c_11]; decide) (by rw [c_11]; rfl) (by decide) ?_
        refine lv_iload_n hx hb dX7_turnsFor_68 rfl (lv_at hl 0 rfl) ?_
        refine lv_iconst (v := 4) hx hb dX7_turnsFor_69 (by decide) ?_
        refine lv_iload_n hx hb dX7_turnsFor_70 rfl (lv_at hl 2 rfl) ?_
        refine lv_imul hx hb dX7_turnsFor_71 ?_
        refine lv_topi (fun x_12 ex_12 => ?_)
        refine lv_isub hx hb dX7_turnsFor_72 ?_
        refine lv_topi (fun x_13 ex_13 => ?_)
        refine lv_istore_n (lv' := [(2, .int x_13), (0, .ref adO), (1, .int p0)]) hx hb dX7_turnsFor_73 rfl hl (by decide) rfl (fun ls hl => ?_)
        refine lv_goto (tgt := 91) hx hb dX7_turnsFor_74 (by decide) ?_
        refine lv_iload_n hx hb dX7_turnsFor_91 rfl (lv_at hl 0 rfl) ?_
        refine lv_if_ge (tgt := 99) hx hb dX7_turnsFor_92 (by decide) (fun c_14 => ?_) (fun c_14 => ?_)
        · refine lv_iload_n hx hb dX7_turnsFor_99 rfl (lv_at hl 0 rfl) ?_
          have hF1 : F_X7_turnsFor oO aO p0 = x_13 := (eX7_turnsFor_5 oO aO p0 x_12 x_13 ex_12 ex_13 c_1 c_5 c_11 c_14)
          exact xi_ret hx hb hr hlocks hP hS rfl (congrArg (fun o : Int32 => o) hF1).symm dX7_turnsFor_100
        · refine lv_iconst (v := 0) hx hb dX7_turnsFor_95 (by decide) ?_
          refine lv_goto (tgt := 100) hx hb dX7_turnsFor_96 (by decide) ?_
          have hF1 : F_X7_turnsFor oO aO p0 = 0 := (eX7_turnsFor_6 oO aO p0 x_12 x_13 ex_12 ex_13 c_1 c_5 c_11 c_14)
          exact xi_ret hx hb hr hlocks hP hS rfl (congrArg (fun o : Int32 => o) hF1).symm dX7_turnsFor_100
      · by_cases c_15 : (oO 15) = 4
        · refine lv_tableIn (off := 68) (tgt := 77) hx hb dX7_turnsFor_9 (by rw [c_15]; decide) (by rw [c_15]; decide) (by rw [c_15]; rfl) (by decide) ?_
          refine lv_iload_n hx hb dX7_turnsFor_77 rfl (lv_at hl 0 rfl) ?_
          refine lv_iconst (v := 4) hx hb dX7_turnsFor_78 (by decide) ?_
          refine lv_iload_n hx hb dX7_turnsFor_79 rfl (lv_at hl 2 rfl) ?_
          refine lv_imul hx hb dX7_turnsFor_80 ?_
          refine lv_topi (fun x_16 ex_16 => ?_)
          refine lv_aload_n hx hb dX7_turnsFor_81 rfl (lv_at hl 1 rfl) ?_
          refine va_get (D := D) (ci := 7) (v := .int (oO 16)) (C := RX7) (T := TX7) (N := 46) hx hb hts (fun _ h => w_in (inlX7 _ h)) hown hK hP 0 rfl rfl 16 (by decide) (htL _ wd_285) (fun _ h9 => h9) rfl dX7_turnsFor_82 ?_
          refine lv_iadd hx hb dX7_turnsFor_85 ?_
          refine lv_topi (fun x_17 ex_17 => ?_)
          refine lv_isub hx hb dX7_turnsFor_86 ?_
          refine lv_topi (fun x_18 ex_18 => ?_)
          refine lv_istore_n (lv' := [(2, .int x_18), (0, .ref adO), (1, .int p0)]) hx hb dX7_turnsFor_87 rfl hl (by decide) rfl (fun ls hl => ?_)
          refine lv_goto (tgt := 91) hx hb dX7_turnsFor_88 (by decide) ?_
          refine lv_iload_n hx hb dX7_turnsFor_91 rfl (lv_at hl 0 rfl) ?_
          refine lv_if_ge (tgt := 99) hx hb dX7_turnsFor_92 (by decide) (fun c_19 => ?_) (fun c_19 => ?_)
          · refine lv_iload_n hx hb dX7_turnsFor_99 rfl (lv_at hl 0 rfl) ?_
            have hF1 : F_X7_turnsFor oO aO p0 = x_18 := (eX7_turnsFor_7 oO aO p0 x_16 x_17 x_18 ex_16 ex_17 ex_18 c_1 c_5 c_11 c_15 c_19)
            exact xi_ret hx hb hr hlocks hP hS rfl (congrArg (fun o : Int32 => o) hF1).symm dX7_turnsFor_100
          · refine lv_iconst (v := 0) hx hb dX7_turnsFor_95 (by decide) ?_
            refine lv_goto (tgt := 100) hx hb dX7_turnsFor_96 (by decide) ?_
            have hF1 : F_X7_turnsFor oO aO p0 = 0 := (eX7_turnsFor_8 oO aO p0 x_16 x_17 x_18 ex_16 ex_17 ex_18 c_1 c_5 c_11 c_15 c_19)
            exact xi_ret hx hb hr hlocks hP hS rfl (congrArg (fun o : Int32 => o) hF1).symm dX7_turnsFor_100
        · refine lv_tableOut (tgt := 91) hx hb dX7_turnsFor_9 (by have hn0 := x_nk (z := 1) c_1 rfl; have hn1 := x_nk (z := 2) c_5 rfl; have hn2 := x_nk (z := 3) c_11 rfl; have hn3 := x_nk (z := 4) c_15 rfl; omega) (by decide) ?_
          refine lv_iload_n hx hb dX7_turnsFor_91 rfl (lv_at hl 0 rfl) ?_
          refine lv_if_ge (tgt := 99) hx hb dX7_turnsFor_92 (by decide) (fun c_20 => ?_) (fun c_20 => ?_)
          · refine lv_iload_n hx hb dX7_turnsFor_99 rfl (lv_at hl 0 rfl) ?_
            have hF1 : F_X7_turnsFor oO aO p0 = (oO 17) := (eX7_turnsFor_9 oO aO p0 c_1 c_5 c_11 c_15 c_20)
            exact xi_ret hx hb hr hlocks hP hS rfl (congrArg (fun o : Int32 => o) hF1).symm dX7_turnsFor_100
          · refine lv_iconst (v := 0) hx hb dX7_turnsFor_95 (by decide) ?_
            refine lv_goto (tgt := 100) hx hb dX7_turnsFor_96 (by decide) ?_
            have hF1 : F_X7_turnsFor oO aO p0 = 0 := (eX7_turnsFor_10 oO aO p0 c_1 c_5 c_11 c_15 c_20)
            exact xi_ret hx hb hr hlocks hP hS rfl (congrArg (fun o : Int32 => o) hF1).symm dX7_turnsFor_100

noncomputable def F_X7_isShown (oO : Nat → Int32) (aO : Nat → Nat → Int32) (p0 : Int32) (p1 : Int32) : Int32 :=
  let x_1 : Int32 := (p0 + (oO 18))
  let x_2 : Int32 := (x_1 - p1)
  if (oO 15) = 4 then
  (if x_2 = 0 then
  (1)
  else
  (0))
  else
  (if x_2 < (-1) then
  (0)
  else
  (if 1 < x_2 then
  (0)
  else
  (if (oO 15) = 5 then
  (let x_7 : Int32 := ((oO 16) - (oO 16) / 4 * 4)
  if p0 < x_7 then
  (0)
  else
  (1))
  else
  (1))))
theorem nz_X7_isShown (oO : Nat → Int32) (aO : Nat → Nat → Int32) (p0 : Int32) (p1 : Int32) : narrow .boolean (.int (F_X7_isShown oO aO p0 p1)) = .int (F_X7_isShown oO aO p0 p1) := by
  unfold F_X7_isShown
  try dsimp only
  (repeat' split) <;> rfl
set_option maxRecDepth 100000 in
theorem eX7_isShown_1 (oO : Nat → Int32) (aO : Nat → Nat → Int32) (p0 : Int32) (p1 : Int32) (x_1 : Int32) (x_2 : Int32) (ex_1 : x_1 = (p0 + (oO 18))) (ex_2 : x_2 = (x_1 - p1)) (c_3 : ¬ ((oO 15) = 4)) (c_4 : x_2 < (-1)) : F_X7_isShown oO aO p0 p1 = 0 := by subst ex_1 ex_2; exact (if_neg c_3).trans ((if_pos c_4).trans (rfl))
set_option maxRecDepth 100000 in
theorem eX7_isShown_2 (oO : Nat → Int32) (aO : Nat → Nat → Int32) (p0 : Int32) (p1 : Int32) (x_1 : Int32) (x_2 : Int32) (ex_1 : x_1 = (p0 + (oO 18))) (ex_2 : x_2 = (x_1 - p1)) (c_3 : ¬ ((oO 15) = 4)) (c_4 : ¬ (x_2 < (-1))) (c_5 : 1 < x_2) : F_X7_isShown oO aO p0 p1 = 0 := by subst ex_1 ex_2; exact (if_neg c_3).trans ((if_neg c_4).trans ((if_pos c_5).trans (rfl)))
set_option maxRecDepth 100000 in
theorem eX7_isShown_3 (oO : Nat → Int32) (aO : Nat → Nat → Int32) (p0 : Int32) (p1 : Int32) (x_1 : Int32) (x_2 : Int32) (ex_1 : x_1 = (p0 + (oO 18))) (ex_2 : x_2 = (x_1 - p1)) (c_3 : ¬ ((oO 15) = 4)) (c_4 : ¬ (x_2 < (-1))) (c_5 : ¬ (1 < x_2)) (c_6 : ¬ ((oO 15) = 5)) : F_X7_isShown oO aO p0 p1 = 1 := by subst ex_1 ex_2; exact (if_neg c_3).trans ((if_neg c_4).trans ((if_neg c_5).trans ((if_neg c_6).trans (rfl))))
set_option maxRecDepth 100000 in
theorem eX7_isShown_4 (oO : Nat → Int32) (aO : Nat → Nat → Int32) (p0 : Int32) (p1 : Int32) (x_1 : Int32) (x_2 : Int32) (x_7 : Int32) (ex_1 : x_1 = (p0 + (oO 18))) (ex_2 : x_2 = (x_1 - p1)) (ex_7 : x_7 = ((oO 16) - (oO 16) / 4 * 4)) (c_3 : ¬ ((oO 15) = 4)) (c_4 : ¬ (x_2 < (-1))) (c_5 : ¬ (1 < x_2)) (c_6 : (oO 15) = 5) (c_8 : p0 < x_7) : F_X7_isShown oO aO p0 p1 = 0 := by subst ex_1 ex_2 ex_7; exact (if_neg c_3).trans ((if_neg c_4).trans ((if_neg c_5).trans ((if_pos c_6).trans ((if_pos c_8).trans (rfl)))))
set_option maxRecDepth 100000 in
theorem eX7_isShown_5 (oO : Nat → Int32) (aO : Nat → Nat → Int32) (p0 : Int32) (p1 : Int32) (x_1 : Int32) (x_2 : Int32) (x_7 : Int32) (ex_1 : x_1 = (p0 + (oO 18))) (ex_2 : x_2 = (x_1 - p1)) (ex_7 : x_7 = ((oO 16) - (oO 16) / 4 * 4)) (c_3 : ¬ ((oO 15) = 4)) (c_4 : ¬ (x_2 < (-1))) (c_5 : ¬ (1 < x_2)) (c_6 : (oO 15) = 5) (c_8 : ¬ (p0 < x_7)) : F_X7_isShown oO aO p0 p1 = 1 := by subst ex_1 ex_2 ex_7; exact (if_neg c_3).trans ((if_neg c_4).trans ((if_neg c_5).trans ((if_pos c_6).trans ((if_neg c_8).trans (rfl)))))
set_option maxRecDepth 100000 in
theorem eX7_isShown_6 (oO : Nat → Int32) (aO : Nat → Nat → Int32) (p0 : Int32) (p1 : Int32) (x_1 : Int32) (x_2 : Int32) (ex_1 : x_1 = (p0 + (oO 18))) (ex_2 : x_2 = (x_1 - p1)) (c_3 : (oO 15) = 4) (c_9 : ¬ (x_2 = 0)) : F_X7_isShown oO aO p0 p1 = 0 := by subst ex_1 ex_2; exact (if_pos c_3).trans ((if_neg c_9).trans (rfl))
set_option maxRecDepth 100000 in
theorem eX7_isShown_7 (oO : Nat → Int32) (aO : Nat → Nat → Int32) (p0 : Int32) (p1 : Int32) (x_1 : Int32) (x_2 : Int32) (ex_1 : x_1 = (p0 + (oO 18))) (ex_2 : x_2 = (x_1 - p1)) (c_3 : (oO 15) = 4) (c_9 : x_2 = 0) : F_X7_isShown oO aO p0 p1 = 1 := by subst ex_1 ex_2; exact (if_pos c_3).trans ((if_pos c_9).trans (rfl))
set_option maxHeartbeats 4000000 in
set_option maxRecDepth 100000 in
theorem c_X7_isShown (l : Launch) (D : va_G) (cI cL : ClassId)   (adO : Nat) (rO : Nat → Nat) (oO : Nat → Int32) (aO : Nat → Nat → Int32) (p0 : Int32) (p1 : Int32)  : Xi l yX7_isShown (wm yX7_isShown cX7_isShown 4 (some .boolean)) (xR (0) (0)) D (tyA cI cL) [.ref adO, .int p0, .int p1] [(adO, .inr (7, [.ref (rO 0), .ref (rO 1), .ref (rO 2), .ref (rO 3), .ref (rO 4), .ref (rO 5), .ref (rO 6), .ref (rO 7), .ref (rO 8), .ref (rO 9), .ref (rO 10), .ref (rO 11), .ref (rO 12), .int (oO 13), .int (oO 14), .int (oO 15), .int (oO 16), .int (oO 17), .int (oO 18), .ref (rO 19), .ref (rO 20), .ref (rO 21), .ref (rO 22), .int (oO 23), .int (oO 24), .int (oO 25), .ref (rO 26), .int (oO 27), .int (oO 28), .int (oO 29), .int (oO 30), .int (oO 31), .int (oO 32), .int (oO 33), .int (oO 34), .int (oO 35), .int (oO 36), .int (oO 37), .ref (rO 38), .ref (rO 39), .ref (rO 40), .int (oO 41), .int (oO 42), .int (oO 43), .ref (rO 44), .int (oO 45)])), ((rO 0), .inl (cI, 7, .inl (aO 0))), ((rO 1), .inl (cI, 8, .inl (aO 1))), ((rO 2), .inl (cI, 8, .inl (aO 2))), ((rO 3), .inl (cI, 8, .inl (aO 3))), ((rO 4), .inl (cI, 8, .inl (aO 4))), ((rO 5), .inl (cI, 4, .inl (aO 5))), ((rO 6), .inl (cI, 4, .inl (aO 6))), ((rO 7), .inl (cI, 4, .inl (aO 7))), ((rO 8), .inl (cI, 4, .inl (aO 8))), ((rO 9), .inl (cI, 4, .inl (aO 9))), ((rO 10), .inl (cI, 4, .inl (aO 10))), ((rO 11), .inl (cI, 4, .inl (aO 11))), ((rO 12), .inl (cI, 4, .inl (aO 12))), ((rO 19), .inl (cI, 96, .inl (aO 19))), ((rO 20), .inl (cI, 48, .inl (aO 20))), ((rO 21), .inl (cI, 48, .inl (aO 21))), ((rO 22), .inl (cI, 192, .inl (aO 22))), ((rO 26), .inl (cI, 160, .inl (aO 26))), ((rO 38), .inl (cI, 54, .inl (aO 38))), ((rO 39), .inl (cI, 9, .inl (aO 39))), ((rO 40), .inl (cI, 9, .inl (aO 40))), ((rO 44), .inl (cI, 12, .inl (aO 44)))] [(adO, .inr (7, [.ref (rO 0), .ref (rO 1), .ref (rO 2), .ref (rO 3), .ref (rO 4), .ref (rO 5), .ref (rO 6), .ref (rO 7), .ref (rO 8), .ref (rO 9), .ref (rO 10), .ref (rO 11), .ref (rO 12), .int (oO 13), .int (oO 14), .int (oO 15), .int (oO 16), .int (oO 17), .int (oO 18), .ref (rO 19), .ref (rO 20), .ref (rO 21), .ref (rO 22), .int (oO 23), .int (oO 24), .int (oO 25), .ref (rO 26), .int (oO 27), .int (oO 28), .int (oO 29), .int (oO 30), .int (oO 31), .int (oO 32), .int (oO 33), .int (oO 34), .int (oO 35), .int (oO 36), .int (oO 37), .ref (rO 38), .ref (rO 39), .ref (rO 40), .int (oO 41), .int (oO 42), .int (oO 43), .ref (rO 44), .int (oO 45)])), ((rO 0), .inl (cI, 7, .inl (aO 0))), ((rO 1), .inl (cI, 8, .inl (aO 1))), ((rO 2), .inl (cI, 8, .inl (aO 2))), ((rO 3), .inl (cI, 8, .inl (aO 3))), ((rO 4), .inl (cI, 8, .inl (aO 4))), ((rO 5), .inl (cI, 4, .inl (aO 5))), ((rO 6), .inl (cI, 4, .inl (aO 6))), ((rO 7), .inl (cI, 4, .inl (aO 7))), ((rO 8), .inl (cI, 4, .inl (aO 8))), ((rO 9), .inl (cI, 4, .inl (aO 9))), ((rO 10), .inl (cI, 4, .inl (aO 10))), ((rO 11), .inl (cI, 4, .inl (aO 11))), ((rO 12), .inl (cI, 4, .inl (aO 12))), ((rO 19), .inl (cI, 96, .inl (aO 19))), ((rO 20), .inl (cI, 48, .inl (aO 20))), ((rO 21), .inl (cI, 48, .inl (aO 21))), ((rO 22), .inl (cI, 192, .inl (aO 22))), ((rO 26), .inl (cI, 160, .inl (aO 26))), ((rO 38), .inl (cI, 54, .inl (aO 38))), ((rO 39), .inl (cI, 9, .inl (aO 39))), ((rO 40), .inl (cI, 9, .inl (aO 40))), ((rO 44), .inl (cI, 12, .inl (aO 44)))] (F_X7_isShown oO aO p0 p1) := by
  intro sz
  refine x_in (cc := cX7_isShown) (maxL := 4) (ret := (some .boolean)) (by decide) rfl (Nat.le_of_ble_eq_true rfl) (fun p e s m below meth c A ls hfix hr hlocks hN hK hP hAe hD hA hS hl => ?_)
  obtain ⟨hx, hb, hml, hown, hts⟩ := hfix
  rw [← hAe]
  clear hAe
  have hown : s.vm.findClass RX7 = some m.cls := hown
  have htL : ∀ w ∈ wsL_law, w.before ([.ref adO, .int p0, .int p1] : List Value).toArray s = true := fun w h => hts w (List.mem_cons_of_mem _ h)
  have hl : lv_has ls 4 [(0, .ref adO), (1, .int p0), (2, .int p1)] := hl
  refine lv_iload_n hx hb dX7_isShown_0 rfl (lv_at hl 1 rfl) ?_
  refine lv_aload_n hx hb dX7_isShown_1 rfl (lv_at hl 0 rfl) ?_
  refine va_get (D := D) (ci := 7) (v := .int (oO 18)) (C := RX7) (T := TX7) (N := 46) hx hb hts (fun _ h => w_in (inlX7 _ h)) hown hK hP 0 rfl rfl 18 (by decide) (htL _ wd_286) (fun _ h9 => h9) rfl dX7_isShown_2 ?_
  refine lv_iadd hx hb dX7_isShown_5 ?_
  refine lv_topi (fun x_1 ex_1 => ?_)
  refine lv_iload_n hx hb dX7_isShown_6 rfl (lv_at hl 2 rfl) ?_
  refine lv_isub hx hb dX7_isShown_7 ?_
  refine lv_topi (fun x_2 ex_2 => ?_)
  refine lv_istore_n (lv' := [(3, .int x_2), (0, .ref adO), (1, .int p0), (2, .int p1)]) hx hb dX7_isShown_8 rfl hl (by decide) rfl (fun ls hl => ?_)
  refine lv_aload_n hx hb dX7_isShown_9 rfl (lv_at hl 1 rfl) ?_
  refine va_get (D := D) (ci := 7) (v := .int (oO 15)) (C := RX7) (T := TX7) (N := 46) hx hb hts (fun _ h => w_in (inlX7 _ h)) hown hK hP 0 rfl rfl 15 (by decide) (htL _ wd_284) (fun _ h9 => h9) rfl dX7_isShown_10 ?_
  refine lv_iconst (v := 4) hx hb dX7_isShown_13 (by decide) ?_
  refine lv_icmp_ne (tgt := 27) hx hb dX7_isShown_14 (by decide) (fun c_3 => ?_) (fun c_3 => ?_)
  · refine lv_iload_n hx hb dX7_isShown_27 rfl (lv_at hl 0 rfl) ?_
    refine lv_iconst (v := (-1)) hx hb dX7_isShown_28 (by decide) ?_
    refine lv_icmp_lt (tgt := 59) hx hb dX7_isShown_29 (by decide) (fun c_4 => ?_) (fun c_4 => ?_)
    · refine lv_iconst (v := 0) hx hb dX7_isShown_59 (by decide) ?_
      have hF1 : F_X7_isShown oO aO p0 p1 = 0 := (eX7_isShown_1 oO aO p0 p1 x_1 x_2 ex_1 ex_2 c_3 c_4)
      exact xz_ret hx hb hr hlocks hP hS rfl (congrArg (fun o : Int32 => o) hF1).symm dX7_isShown_60 rfl
    · refine lv_iload_n hx hb dX7_isShown_32 rfl (lv_at hl 0 rfl) ?_
      refine lv_iconst (v := 1) hx hb dX7_isShown_33 (by decide) ?_
      refine lv_icmp_gt (tgt := 59) hx hb dX7_isShown_34 (by decide) (fun c_5 => ?_) (fun c_5 => ?_)
      · refine lv_iconst (v := 0) hx hb dX7_isShown_59 (by decide) ?_
        have hF1 : F_X7_isShown oO aO p0 p1 = 0 := (eX7_isShown_2 oO aO p0 p1 x_1 x_2 ex_1 ex_2 c_3 c_4 c_5)
        exact xz_ret hx hb hr hlocks hP hS rfl (congrArg (fun o : Int32 => o) hF1).symm dX7_isShown_60 rfl
      · refine lv_aload_n hx hb dX7_isShown_37 rfl (lv_at hl 1 rfl) ?_
        refine va_get (D := D) (ci := 7) (v := .int (oO 15)) (C := RX7) (T := TX7) (N := 46) hx hb hts (fun _ h => w_in (inlX7 _ h)) hown hK hP 0 rfl rfl 15 (by decide) (htL _ wd_284) (fun _ h9 => h9) rfl dX7_isShown_38 ?_
        refine lv_iconst (v := 5) hx hb dX7_isShown_41 (by decide) ?_
        refine lv_icmp_ne (tgt := 55) hx hb dX7_isShown_42 (by decide) (fun c_6 => ?_) (fun c_6 => ?_)
        · refine lv_iconst (v := 1) hx hb dX7_isShown_55 (by decide) ?_
          refine lv_goto (tgt := 60) hx hb dX7_isShown_56 (by decide) ?_
          have hF1 : F_X7_isShown oO aO p0 p1 = 1 := (eX7_isShown_3 oO aO p0 p1 x_1 x_2 ex_1 ex_2 c_3 c_4 c_5 c_6)
          exact xz_ret hx hb hr hlocks hP hS rfl (congrArg (fun o : Int32 => o) hF1).symm dX7_isShown_60 rfl
        · refine lv_iload_n hx hb dX7_isShown_45 rfl (lv_at hl 2 rfl) ?_
          refine lv_aload_n hx hb dX7_isShown_46 rfl (lv_at hl 1 rfl) ?_
          refine va_get (D := D) (ci := 7) (v := .int (oO 16)) (C := RX7) (T := TX7) (N := 46) hx hb hts (fun _ h => w_in (inlX7 _ h)) hown hK hP 0 rfl rfl 16 (by decide) (htL _ wd_285) (fun _ h9 => h9) rfl dX7_isShown_47 ?_
          refine lv_iconst (v := 4) hx hb dX7_isShown_50 (by decide) ?_
          refine lv_irem hx hb dX7_isShown_51 (by decide) ?_
          refine lv_topi (fun x_7 ex_7 => ?_)
          refine lv_icmp_lt (tgt := 59) hx hb dX7_isShown_52 (by decide) (fun c_8 => ?_) (fun c_8 => ?_)
          · refine lv_iconst (v := 0) hx hb dX7_isShown_59 (by decide) ?_
            have hF1 : F_X7_isShown oO aO p0 p1 = 0 := (eX7_isShown_4 oO aO p0 p1 x_1 x_2 x_7 ex_1 ex_2 ex_7 c_3 c_4 c_5 c_6 c_8)
            exact xz_ret hx hb hr hlocks hP hS rfl (congrArg (fun o : Int32 => o) hF1).symm dX7_isShown_60 rfl
          · refine lv_iconst (v := 1) hx hb dX7_isShown_55 (by decide) ?_
            refine lv_goto (tgt := 60) hx hb dX7_isShown_56 (by decide) ?_
            have hF1 : F_X7_isShown oO aO p0 p1 = 1 := (eX7_isShown_5 oO aO p0 p1 x_1 x_2 x_7 ex_1 ex_2 ex_7 c_3 c_4 c_5 c_6 c_8)
            exact xz_ret hx hb hr hlocks hP hS rfl (congrArg (fun o : Int32 => o) hF1).symm dX7_isShown_60 rfl
  · refine lv_iload_n hx hb dX7_isShown_17 rfl (lv_at hl 0 rfl) ?_
    refine lv_if_ne (tgt := 25) hx hb dX7_isShown_18 (by decide) (fun c_9 => ?_) (fun c_9 => ?_)
    · refine lv_iconst (v := 0) hx hb dX7_isShown_25 (by decide) ?_
      have hF1 : F_X7_isShown oO aO p0 p1 = 0 := (eX7_isShown_6 oO aO p0 p1 x_1 x_2 ex_1 ex_2 c_3 c_9)
      exact xz_ret hx hb hr hlocks hP hS rfl (congrArg (fun o : Int32 => o) hF1).symm dX7_isShown_26 rfl
    · refine lv_iconst (v := 1) hx hb dX7_isShown_21 (by decide) ?_
      refine lv_goto (tgt := 26) hx hb dX7_isShown_22 (by decide) ?_
      have hF1 : F_X7_isShown oO aO p0 p1 = 1 := (eX7_isShown_7 oO aO p0 p1 x_1 x_2 ex_1 ex_2 c_3 c_9)
      exact xz_ret hx hb hr hlocks hP hS rfl (congrArg (fun o : Int32 => o) hF1).symm dX7_isShown_26 rfl
