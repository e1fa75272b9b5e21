noncomputable def F_X6_at (fA : Nat → Int32) (kA : Nat) (p0 : Int32) : Int32 :=
  if p0 < 0 then
  (0)
  else
  (if (nI kA) ≤ p0 then
  (0)
  else
  (let x_3 : Int32 := (fA p0.toNatClampNeg)
  x_3))
set_option maxRecDepth 100000 in
theorem eX6_at_1 (fA : Nat → Int32) (kA : Nat) (p0 : Int32) (c_1 : p0 < 0) : F_X6_at fA kA p0 = 0 := by exact (if_pos c_1).trans (rfl)
set_option maxRecDepth 100000 in
theorem eX6_at_2 (fA : Nat → Int32) (kA : Nat) (p0 : Int32) (c_1 : ¬ (p0 < 0)) (c_2 : (nI kA) ≤ p0) : F_X6_at fA kA p0 = 0 := by exact (if_neg c_1).trans ((if_pos c_2).trans (rfl))
set_option maxRecDepth 100000 in
theorem eX6_at_3 (fA : Nat → Int32) (kA : Nat) (p0 : Int32) (x_3 : Int32) (ex_3 : x_3 = (fA p0.toNatClampNeg)) (c_1 : ¬ (p0 < 0)) (c_2 : ¬ ((nI kA) ≤ p0)) : F_X6_at fA kA p0 = x_3 := by subst ex_3; exact (if_neg c_1).trans ((if_neg c_2).trans (rfl))
set_option maxHeartbeats 4000000 in
set_option maxRecDepth 100000 in
theorem c_X6_at (l : Launch) (D : va_G) (cI cL : ClassId)   (adA : Nat) (fA : Nat → Int32) (kA : Nat) (p0 : Int32)  (hkkA : kA < 2 ^ 31) : Xi l yX6_at (wm yX6_at cX6_at 2 (some .int)) (xR (0) (0)) D (tyA cI cL) [.ref adA, .int p0] [(adA, .inl (cI, kA, .inl fA))] [(adA, .inl (cI, kA, .inl fA))] (F_X6_at fA kA p0) := by
  intro sz
  refine x_in (cc := cX6_at) (maxL := 2) (ret := (some .int)) (by decide) rfl (Nat.le_of_ble_eq_true rfl) (fun p e s m below meth c A ls hfix hr hlocks hN hK hP hAe hD hA hS hl => ?_)
  obtain ⟨hx, hb, hml, hown, hts⟩ := hfix
  rw [← hAe]
  clear hAe
  have hown : s.vm.findClass RX6 = some m.cls := hown
  have htL : ∀ w ∈ wsL_law, w.before ([.ref adA, .int p0] : List Value).toArray s = true := fun w h => hts w (List.mem_cons_of_mem _ h)
  have hl : lv_has ls 2 [(0, .ref adA), (1, .int p0)] := hl
  refine lv_aload_n hx hb dX6_at_0 rfl (lv_at hl 0 rfl) ?_
  refine lv_ifnull hx hb dX6_at_1 ?_
  refine lv_iload_n hx hb dX6_at_4 rfl (lv_at hl 1 rfl) ?_
  refine lv_if_lt (tgt := 20) hx hb dX6_at_5 (by decide) (fun c_1 => ?_) (fun c_1 => ?_)
  · refine lv_iconst (v := 0) hx hb dX6_at_20 (by decide) ?_
    have hF1 : F_X6_at fA kA p0 = 0 := (eX6_at_1 fA kA p0 c_1)
    exact xi_ret hx hb hr hlocks hP hS rfl (congrArg (fun o : Int32 => o) hF1).symm dX6_at_21
  · refine lv_iload_n hx hb dX6_at_8 rfl (lv_at hl 1 rfl) ?_
    refine lv_aload_n hx hb dX6_at_9 rfl (lv_at hl 0 rfl) ?_
    refine va_alen (v := (nI kA)) hx hb hK hP 0 0 rfl rfl rfl dX6_at_10 ?_
    refine lv_icmp_ge (tgt := 20) hx hb dX6_at_11 (by decide) (fun c_2 => ?_) (fun c_2 => ?_)
    · refine lv_iconst (v := 0) hx hb dX6_at_20 (by decide) ?_
      have hF1 : F_X6_at fA kA p0 = 0 := (eX6_at_2 fA kA p0 c_1 c_2)
      exact xi_ret hx hb hr hlocks hP hS rfl (congrArg (fun o : Int32 => o) hF1).symm dX6_at_21
    · refine lv_aload_n hx hb dX6_at_14 rfl (lv_at hl 0 rfl) ?_
      refine lv_iload_n hx hb dX6_at_15 rfl (lv_at hl 1 rfl) ?_
      refine va_iald hx hb hK hP 0 0 rfl rfl (x_vp hkkA (by assumption) (by assumption)) dX6_at_16 ?_
      refine lv_topi (fun x_3 ex_3 => ?_)
      refine lv_goto (tgt := 21) hx hb dX6_at_17 (by decide) ?_
      have hF1 : F_X6_at fA kA p0 = x_3 := (eX6_at_3 fA kA p0 x_3 ex_3 c_1 c_2)
      exact xi_ret hx hb hr hlocks hP hS rfl (congrArg (fun o : Int32 => o) hF1).symm dX6_at_21

noncomputable def F_X6_put (fA : Nat → Int32) (kA : Nat) (p0 : Int32) (p1 : Int32) : Nat → Int32 :=
  if p0 < 0 then
  (fA)
  else
  (if (nI kA) ≤ p0 then
  (fA)
  else
  ((upd fA p0.toNatClampNeg p1)))
set_option maxRecDepth 100000 in
theorem eX6_put_1 (fA : Nat → Int32) (kA : Nat) (p0 : Int32) (p1 : Int32) (c_1 : p0 < 0) : F_X6_put fA kA p0 p1 = fA := by exact (if_pos c_1).trans (rfl)
set_option maxRecDepth 100000 in
theorem eX6_put_2 (fA : Nat → Int32) (kA : Nat) (p0 : Int32) (p1 : Int32) (c_1 : ¬ (p0 < 0)) (c_2 : (nI kA) ≤ p0) : F_X6_put fA kA p0 p1 = fA := by exact (if_neg c_1).trans ((if_pos c_2).trans (rfl))
set_option maxRecDepth 100000 in
theorem eX6_put_3 (fA : Nat → Int32) (kA : Nat) (p0 : Int32) (p1 : Int32) (c_1 : ¬ (p0 < 0)) (c_2 : ¬ ((nI kA) ≤ p0)) : F_X6_put fA kA p0 p1 = (upd fA p0.toNatClampNeg p1) := by exact (if_neg c_1).trans ((if_neg c_2).trans (rfl))
set_option maxHeartbeats 4000000 in
set_option maxRecDepth 100000 in
theorem c_X6_put (l : Launch) (D : va_G) (cI cL : ClassId)   (adA : Nat) (fA : Nat → Int32) (kA : Nat) (p0 : Int32) (p1 : Int32)  (hkkA : kA < 2 ^ 31) : Xv l yX6_put (wm yX6_put cX6_put 3 none) (xR (0) (0)) D (tyA cI cL) [.ref adA, .int p0, .int p1] [(adA, .inl (cI, kA, .inl fA))] [(adA, .inl (cI, kA, .inl (F_X6_put fA kA p0 p1)))] := by
  intro sz
  refine x_in (cc := cX6_put) (maxL := 3) (ret := none) (by decide) rfl (Nat.le_of_ble_eq_true rfl) (fun p e s m below meth c A ls hfix hr hlocks hN hK hP hAe hD hA hS hl => ?_)
  obtain ⟨hx, hb, hml, hown, hts⟩ := hfix
  rw [← hAe]
  clear hAe
  have hown : s.vm.findClass RX6 = some m.cls := hown
  have htL : ∀ w ∈ wsL_law, w.before ([.ref adA, .int p0, .int p1] : List Value).toArray s = true := fun w h => hts w (List.mem_cons_of_mem _ h)
  have hl : lv_has ls 3 [(0, .ref adA), (1, .int p0), (2, .int p1)] := hl
  refine lv_aload_n hx hb dX6_put_0 rfl (lv_at hl 0 rfl) ?_
  refine lv_ifnull hx hb dX6_put_1 ?_
  refine lv_iload_n hx hb dX6_put_4 rfl (lv_at hl 1 rfl) ?_
  refine lv_if_lt (tgt := 18) hx hb dX6_put_5 (by decide) (fun c_1 => ?_) (fun c_1 => ?_)
  · have hF1 : F_X6_put fA kA p0 p1 = fA := (eX6_put_1 fA kA p0 p1 c_1)
    exact xv_ret hx hb hr hlocks hP hS (congrArg (fun o : Nat → Int32 => ([(adA, .inl (cI, kA, .inl o))] : va_W)) hF1).symm dX6_put_18
  · refine lv_iload_n hx hb dX6_put_8 rfl (lv_at hl 1 rfl) ?_
    refine lv_aload_n hx hb dX6_put_9 rfl (lv_at hl 0 rfl) ?_
    refine va_alen (v := (nI kA)) hx hb hK hP 0 0 rfl rfl rfl dX6_put_10 ?_
    refine lv_icmp_ge (tgt := 18) hx hb dX6_put_11 (by decide) (fun c_2 => ?_) (fun c_2 => ?_)
    · have hF1 : F_X6_put fA kA p0 p1 = fA := (eX6_put_2 fA kA p0 p1 c_1 c_2)
      exact xv_ret hx hb hr hlocks hP hS (congrArg (fun o : Nat → Int32 => ([(adA, .inl (cI, kA, .inl o))] : va_W)) hF1).symm dX6_put_18
    · refine lv_aload_n hx hb dX6_put_14 rfl (lv_at hl 0 rfl) ?_
      refine lv_iload_n hx hb dX6_put_15 rfl (lv_at hl 1 rfl) ?_
      refine lv_iload_n hx hb dX6_put_16 rfl (lv_at hl 2 rfl) ?_
      refine va_iast hx hb hK hP hD hS 0 0 rfl rfl (x_vp hkkA (by assumption) (by assumption)) dX6_put_17 (fun H locs hP hD hS => ?_)
      have hP : va_P D vwCl [(adA, .inl (cI, kA, .inl (upd fA p0.toNatClampNeg p1)))] _ := hP
      have hD : va_D A [(adA, .inl (cI, kA, .inl (upd fA p0.toNatClampNeg p1)))] := hD
      have hF1 : F_X6_put fA kA p0 p1 = (upd fA p0.toNatClampNeg p1) := (eX6_put_3 fA kA p0 p1 c_1 c_2)
      exact xv_ret hx hb hr hlocks hP hS (congrArg (fun o : Nat → Int32 => ([(adA, .inl (cI, kA, .inl o))] : va_W)) hF1).symm dX6_put_18

noncomputable def F_X6_outside (p0 : Int32) (p1 : Int32) (p2 : Int32) : Int32 :=
  if p1 ≤ p0 then
  (if p0 ≤ p2 then
  (0)
  else
  ((-6)))
  else
  ((-4))
set_option maxRecDepth 100000 in
theorem eX6_outside_1 (p0 : Int32) (p1 : Int32) (p2 : Int32) (c_1 : p1 ≤ p0) (c_2 : p0 ≤ p2) : F_X6_outside p0 p1 p2 = 0 := by exact (if_pos c_1).trans ((if_pos c_2).trans (rfl))
set_option maxRecDepth 100000 in
theorem eX6_outside_2 (p0 : Int32) (p1 : Int32) (p2 : Int32) (c_1 : p1 ≤ p0) (c_2 : ¬ (p0 ≤ p2)) : F_X6_outside p0 p1 p2 = (-6) := by exact (if_pos c_1).trans ((if_neg c_2).trans (rfl))
set_option maxRecDepth 100000 in
theorem eX6_outside_3 (p0 : Int32) (p1 : Int32) (p2 : Int32) (c_1 : ¬ (p1 ≤ p0)) : F_X6_outside p0 p1 p2 = (-4) := by exact (if_neg c_1).trans (rfl)
set_option maxHeartbeats 4000000 in
set_option maxRecDepth 100000 in
theorem c_X6_outside (l : Launch) (D : va_G) (cI cL : ClassId)   (p0 : Int32) (p1 : Int32) (p2 : Int32)  : Xi l yX6_outside (wm yX6_outside cX6_outside 3 (some .int)) (xR (0) (0)) D (tyA cI cL) [.int p0, .int p1, .int p2] [] [] (F_X6_outside p0 p1 p2) := by
  intro sz
  refine x_in (cc := cX6_outside) (maxL := 3) (ret := (some .int)) (by decide) rfl (Nat.le_of_ble_eq_true rfl) (fun p e s m below meth c A ls hfix hr hlocks hN hK hP hAe hD hA hS hl => ?_)
  obtain ⟨hx, hb, hml, hown, hts⟩ := hfix
  rw [← hAe]
  clear hAe
  have hown : s.vm.findClass RX6 = some m.cls := hown
  have htL : ∀ w ∈ wsL_law, w.before ([.int p0, .int p1, .int p2] : List Value).toArray s = true := fun w h => hts w (List.mem_cons_of_mem _ h)
  have hl : lv_has ls 3 [(0, .int p0), (1, .int p1), (2, .int p2)] := hl
  refine lv_iload_n hx hb dX6_outside_0 rfl (lv_at hl 0 rfl) ?_
  refine lv_iload_n hx hb dX6_outside_1 rfl (lv_at hl 1 rfl) ?_
  refine lv_icmp_ge (tgt := 8) hx hb dX6_outside_2 (by decide) (fun c_1 => ?_) (fun c_1 => ?_)
  · refine lv_iload_n hx hb dX6_outside_8 rfl (lv_at hl 0 rfl) ?_
    refine lv_iload_n hx hb dX6_outside_9 rfl (lv_at hl 2 rfl) ?_
    refine lv_icmp_le (tgt := 18) hx hb dX6_outside_10 (by decide) (fun c_2 => ?_) (fun c_2 => ?_)
    · refine lv_iconst (v := 0) hx hb dX6_outside_18 (by decide) ?_
      have hF1 : F_X6_outside p0 p1 p2 = 0 := (eX6_outside_1 p0 p1 p2 c_1 c_2)
      exact xi_ret hx hb hr hlocks hP hS rfl (congrArg (fun o : Int32 => o) hF1).symm dX6_outside_19
    · refine lv_bipush (v := (-6)) hx hb dX6_outside_13 (by decide) ?_
      refine lv_goto (tgt := 19) hx hb dX6_outside_15 (by decide) ?_
      have hF1 : F_X6_outside p0 p1 p2 = (-6) := (eX6_outside_2 p0 p1 p2 c_1 c_2)
      exact xi_ret hx hb hr hlocks hP hS rfl (congrArg (fun o : Int32 => o) hF1).symm dX6_outside_19
  · refine lv_bipush (v := (-4)) hx hb dX6_outside_5 (by decide) ?_
    have hF1 : F_X6_outside p0 p1 p2 = (-4) := (eX6_outside_3 p0 p1 p2 c_1)
    exact xi_ret hx hb hr hlocks hP hS rfl (congrArg (fun o : Int32 => o) hF1).symm dX6_outside_7
theorem x_out {v r : Int32} (e : r = F_X6_outside v 0 20) (h : r = 0) : v.toInt < 2147483647 := by
  rw [e] at h
  unfold F_X6_outside at h
  rcases Decidable.em ((0 : Int32) ≤ v) with a | a
  · rcases Decidable.em (v ≤ (20 : Int32)) with b | b
    · rw [Int32.le_iff_toInt_le, show (20 : Int32).toInt = 20 from rfl] at b
      omega
    · rw [if_pos a, if_neg b] at h
      exact absurd h (by decide)
  · rw [if_neg a] at h
    exact absurd h (by decide)

noncomputable def F_X5_columnOf (qS : Nat → Nat → Int32) (nS : Int32) (p0 : Int32) : Int32 :=
  let r_1 : Int32 := (F_X6_at (qS 0) 8 p0)
  r_1
set_option maxRecDepth 100000 in
theorem eX5_columnOf_1 (qS : Nat → Nat → Int32) (nS : Int32) (p0 : Int32) (r_1 : Int32) (er_1 : r_1 = (F_X6_at (qS 0) 8 p0)) : F_X5_columnOf qS nS p0 = r_1 := by subst er_1; exact rfl
set_option maxHeartbeats 4000000 in
set_option maxRecDepth 100000 in
theorem c_X5_columnOf (l : Launch) (D : va_G) (cI cL : ClassId)   (adS : Nat) (rS : Nat → Nat) (qS : Nat → Nat → Int32) (nS : Int32) (p0 : Int32)  : Xi l yX5_columnOf (wm yX5_columnOf cX5_columnOf 2 (some .int)) (xR (1) (21)) D (tyA cI cL) [.ref adS, .int p0] [(adS, .inr (5, [.ref (rS 0), .ref (rS 1), .ref (rS 2), .ref (rS 3), .int nS])), ((rS 0), .inl (cI, 8, .inl (qS 0))), ((rS 1), .inl (cI, 8, .inl (qS 1))), ((rS 2), .inl (cI, 8, .inl (qS 2))), ((rS 3), .inl (cI, 8, .inl (qS 3)))] [(adS, .inr (5, [.ref (rS 0), .ref (rS 1), .ref (rS 2), .ref (rS 3), .int nS])), ((rS 0), .inl (cI, 8, .inl (qS 0))), ((rS 1), .inl (cI, 8, .inl (qS 1))), ((rS 2), .inl (cI, 8, .inl (qS 2))), ((rS 3), .inl (cI, 8, .inl (qS 3)))] (F_X5_columnOf qS nS p0) := by
  intro sz
  refine x_in (cc := cX5_columnOf) (maxL := 2) (ret := (some .int)) (by decide) rfl (Nat.le_of_ble_eq_true rfl) (fun p e s m below meth c A ls hfix hr hlocks hN hK hP hAe hD hA hS hl => ?_)
  obtain ⟨hx, hb, hml, hown, hts⟩ := hfix
  rw [← hAe]
  clear hAe
  have hown : s.vm.findClass RX5 = some m.cls := hown
  have htL : ∀ w ∈ wsL_law, w.before ([.ref adS, .int p0] : List Value).toArray s = true := fun w h => hts w (List.mem_cons_of_mem _ h)
  have hl : lv_has ls 2 [(0, .ref adS), (1, .int p0)] := hl
  refine lv_aload_n hx hb dX5_columnOf_0 rfl (lv_at hl 0 rfl) ?_
  refine va_get (D := D) (ci := 5) (v := .ref (rS 0)) (C := RX5) (T := TX5) (N := 5) hx hb hts (fun _ h => w_in (inlX5 _ h)) hown hK hP 0 rfl rfl 0 (by decide) (htL _ wd_54) (fun _ h9 => h9) rfl dX5_columnOf_1 ?_
  refine lv_iload_n hx hb dX5_columnOf_4 rfl (lv_at hl 1 rfl) ?_
  refine x_ci [1] (va_runSN (As := [.ref (rS 0), .int p0]) (rest := []) ⟨hx, hb, hml, hown, hts⟩ (c_X6_at l D cI cL (rS 0) (qS 0) 8 p0 (by decide) _) ⟨va_cnB 2 hts (gg_ok (fun _ h => w_in h) wd_139) rfl rfl rfl (nm_OverTheShoulder_Sheet_45 hN) (htL _ wd_2) (by decide +kernel) ⟨Nat.le_of_ble_eq_true rfl, Nat.le_of_ble_eq_true rfl⟩, (htL _ wd_138), trivial⟩ (x_ps hN hK hP hD [1] rfl rfl) rfl rfl hl.1 rfl (lv_room (Nat.le_of_ble_eq_true rfl)) dX5_columnOf_5 ⟨Nat.zero_le _, Nat.zero_le _⟩) hP hD hS hA rfl (fun r_1 H locs er_1 hP hS => ?_)
  have hF1 : F_X5_columnOf qS nS p0 = r_1 := (eX5_columnOf_1 qS nS p0 r_1 er_1)
  exact xi_ret hx hb hr hlocks hP hS rfl (congrArg (fun o : Int32 => o) hF1).symm dX5_columnOf_8

noncomputable def F_X5_kindOf (qS : Nat → Nat → Int32) (nS : Int32) (p0 : Int32) : Int32 :=
  let r_1 : Int32 := (F_X6_at (qS 1) 8 p0)
  r_1
set_option maxRecDepth 100000 in
theorem eX5_kindOf_1 (qS : Nat → Nat → Int32) (nS : Int32) (p0 : Int32) (r_1 : Int32) (er_1 : r_1 = (F_X6_at (qS 1) 8 p0)) : F_X5_kindOf qS nS p0 = r_1 := by subst er_1; exact rfl
set_option maxHeartbeats 4000000 in
set_option maxRecDepth 100000 in
theorem c_X5_kindOf (l : Launch) (D : va_G) (cI cL : ClassId)   (adS : Nat) (rS : Nat → Nat) (qS : Nat → Nat → Int32) (nS : Int32) (p0 : Int32)  : Xi l yX5_kindOf (wm yX5_kindOf cX5_kindOf 2 (some .int)) (xR (1) (21)) D (tyA cI cL) [.ref adS, .int p0] [(adS, .inr (5, [.ref (rS 0), .ref (rS 1), .ref (rS 2), .ref (rS 3), .int nS])), ((rS 0), .inl (cI, 8, .inl (qS 0))), ((rS 1), .inl (cI, 8, .inl (qS 1))), ((rS 2), .inl (cI, 8, .inl (qS 2))), ((rS 3), .inl (cI, 8, .inl (qS 3)))] [(adS, .inr (5, [.ref (rS 0), .ref (rS 1), .ref (rS 2), .ref (rS 3), .int nS])), ((rS 0), .inl (cI, 8, .inl (qS 0))), ((rS 1), .inl (cI, 8, .inl (qS 1))), ((rS 2), .inl (cI, 8, .inl (qS 2))), ((rS 3), .inl (cI, 8, .inl (qS 3)))] (F_X5_kindOf qS nS p0) := by
  intro sz
  refine x_in (cc := cX5_kindOf) (maxL := 2) (ret := (some .int)) (by decide) rfl (Nat.le_of_ble_eq_true rfl) (fun p e s m below meth c A ls hfix hr hlocks hN hK hP hAe hD hA hS hl => ?_)
  obtain ⟨hx, hb, hml, hown, hts⟩ := hfix
  rw [← hAe]
  clear hAe
  have hown : s.vm.findClass RX5 = some m.cls := hown
  have htL : ∀ w ∈ wsL_law, w.before ([.ref adS, .int p0] : List Value).toArray s = true := fun w h => hts w (List.mem_cons_of_mem _ h)
  have hl : lv_has ls 2 [(0, .ref adS), (1, .int p0)] := hl
  refine lv_aload_n hx hb dX5_kindOf_0 rfl (lv_at hl 0 rfl) ?_
  refine va_get (D := D) (ci := 5) (v := .ref (rS 1)) (C := RX5) (T := TX5) (N := 5) hx hb hts (fun _ h => w_in (inlX5 _ h)) hown hK hP 0 rfl rfl 1 (by decide) (htL _ wd_55) (fun _ h9 => h9) rfl dX5_kindOf_1 ?_
  refine lv_iload_n hx hb dX5_kindOf_4 rfl (lv_at hl 1 rfl) ?_
  refine x_ci [2] (va_runSN (As := [.ref (rS 1), .int p0]) (rest := []) ⟨hx, hb, hml, hown, hts⟩ (c_X6_at l D cI cL (rS 1) (qS 1) 8 p0 (by decide) _) ⟨va_cnB 2 hts (gg_ok (fun _ h => w_in h) wd_139) rfl rfl rfl (nm_OverTheShoulder_Sheet_45 hN) (htL _ wd_2) (by decide +kernel) ⟨Nat.le_of_ble_eq_true rfl, Nat.le_of_ble_eq_true rfl⟩, (htL _ wd_138), trivial⟩ (x_ps hN hK hP hD [2] rfl rfl) rfl rfl hl.1 rfl (lv_room (Nat.le_of_ble_eq_true rfl)) dX5_kindOf_5 ⟨Nat.zero_le _, Nat.zero_le _⟩) hP hD hS hA rfl (fun r_1 H locs er_1 hP hS => ?_)
  have hF1 : F_X5_kindOf qS nS p0 = r_1 := (eX5_kindOf_1 qS nS p0 r_1 er_1)
  exact xi_ret hx hb hr hlocks hP hS rfl (congrArg (fun o : Int32 => o) hF1).symm dX5_kindOf_8

noncomputable def F_X5_figureOf (qS : Nat → Nat → Int32) (nS : Int32) (p0 : Int32) : Int32 :=
  let r_1 : Int32 := (F_X6_at (qS 2) 8 p0)
  r_1
set_option maxRecDepth 100000 in
theorem eX5_figureOf_1 (qS : Nat → Nat → Int32) (nS : Int32) (p0 : Int32) (r_1 : Int32) (er_1 : r_1 = (F_X6_at (qS 2) 8 p0)) : F_X5_figureOf qS nS p0 = r_1 := by subst er_1; exact rfl
set_option maxHeartbeats 4000000 in
set_option maxRecDepth 100000 in
theorem c_X5_figureOf (l : Launch) (D : va_G) (cI cL : ClassId)   (adS : Nat) (rS : Nat → Nat) (qS : Nat → Nat → Int32) (nS : Int32) (p0 : Int32)  : Xi l yX5_figureOf (wm yX5_figureOf cX5_figureOf 2 (some .int)) (xR (1) (21)) D (tyA cI cL) [.ref adS, .int p0] [(adS, .inr (5, [.ref (rS 0), .ref (rS 1), .ref (rS 2), .ref (rS 3), .int nS])), ((rS 0), .inl (cI, 8, .inl (qS 0))), ((rS 1), .inl (cI, 8, .inl (qS 1))), ((rS 2), .inl (cI, 8, .inl (qS 2))), ((rS 3), .inl (cI, 8, .inl (qS 3)))] [(adS, .inr (5, [.ref (rS 0), .ref (rS 1), .ref (rS 2), .ref (rS 3), .int nS])), ((rS 0), .inl (cI, 8, .inl (qS 0))), ((rS 1), .inl (cI, 8, .inl (qS 1))), ((rS 2), .inl (cI, 8, .inl (qS 2))), ((rS 3), .inl (cI, 8, .inl (qS 3)))] (F_X5_figureOf qS nS p0) := by
  intro sz
  refine x_in (cc := cX5_figureOf) (maxL := 2) (ret := (some .int)) (by decide) rfl (Nat.le_of_ble_eq_true rfl) (fun p e s m below meth c A ls hfix hr hlocks hN hK hP hAe hD hA hS hl => ?_)
  obtain ⟨hx, hb, hml, hown, hts⟩ := hfix
  rw [← hAe]
  clear hAe
  have hown : s.vm.findClass RX5 = some m.cls := hown
  have htL : ∀ w ∈ wsL_law, w.before ([.ref adS, .int p0] : List Value).toArray s = true := fun w h => hts w (List.mem_cons_of_mem _ h)
  have hl : lv_has ls 2 [(0, .ref adS), (1, .int p0)] := hl
  refine lv_aload_n hx hb dX5_figureOf_0 rfl (lv_at hl 0 rfl) ?_
  refine va_get (D := D) (ci := 5) (v := .ref (rS 2)) (C := RX5) (T := TX5) (N := 5) hx hb hts (fun _ h => w_in (inlX5 _ h)) hown hK hP 0 rfl rfl 2 (by decide) (htL _ wd_56) (fun _ h9 => h9) rfl dX5_figureOf_1 ?_
  refine lv_iload_n hx hb dX5_figureOf_4 rfl (lv_at hl 1 rfl) ?_
  refine x_ci [3] (va_runSN (As := [.ref (rS 2), .int p0]) (rest := []) ⟨hx, hb, hml, hown, hts⟩ (c_X6_at l D cI cL (rS 2) (qS 2) 8 p0 (by decide) _) ⟨va_cnB 2 hts (gg_ok (fun _ h => w_in h) wd_139) rfl rfl rfl (nm_OverTheShoulder_Sheet_45 hN) (htL _ wd_2) (by decide +kernel) ⟨Nat.le_of_ble_eq_true rfl, Nat.le_of_ble_eq_true rfl⟩, (htL _ wd_138), trivial⟩ (x_ps hN hK hP hD [3] rfl rfl) rfl rfl hl.1 rfl (lv_room (Nat.le_of_ble_eq_true rfl)) dX5_figureOf_5 ⟨Nat.zero_le _, Nat.zero_le _⟩) hP hD hS hA rfl (fun r_1 H locs er_1 hP hS => ?_)
  have hF1 : F_X5_figureOf qS nS p0 = r_1 := (eX5_figureOf_1 qS nS p0 r_1 er_1)
  exact xi_ret hx hb hr hlocks hP hS rfl (congrArg (fun o : Int32 => o) hF1).symm dX5_figureOf_8

noncomputable def F_X5_secondsOf (qS : Nat → Nat → Int32) (nS : Int32) (p0 : Int32) : Int32 :=
  let r_1 : Int32 := (F_X6_at (qS 3) 8 p0)
  r_1
set_option maxRecDepth 100000 in
theorem eX5_secondsOf_1 (qS : Nat → Nat → Int32) (nS : Int32) (p0 : Int32) (r_1 : Int32) (er_1 : r_1 = (F_X6_at (qS 3) 8 p0)) : F_X5_secondsOf qS nS p0 = r_1 := by subst er_1; exact rfl
set_option maxHeartbeats 4000000 in
set_option maxRecDepth 100000 in
theorem c_X5_secondsOf (l : Launch) (D : va_G) (cI cL : ClassId)   (adS : Nat) (rS : Nat → Nat) (qS : Nat → Nat → Int32) (nS : Int32) (p0 : Int32)  : Xi l yX5_secondsOf (wm yX5_secondsOf cX5_secondsOf 2 (some .int)) (xR (1) (21)) D (tyA cI cL) [.ref adS, .int p0] [(adS, .inr (5, [.ref (rS 0), .ref (rS 1), .ref (rS 2), .ref (rS 3), .int nS])), ((rS 0), .inl (cI, 8, .inl (qS 0))), ((rS 1), .inl (cI, 8, .inl (qS 1))), ((rS 2), .inl (cI, 8, .inl (qS 2))), ((rS 3), .inl (cI, 8, .inl (qS 3)))] [(adS, .inr (5, [.ref (rS 0), .ref (rS 1), .ref (rS 2), .ref (rS 3), .int nS])), ((rS 0), .inl (cI, 8, .inl (qS 0))), ((rS 1), .inl (cI, 8, .inl (qS 1))), ((rS 2), .inl (cI, 8, .inl (qS 2))), ((rS 3), .inl (cI, 8, .inl (qS 3)))] (F_X5_secondsOf qS nS p0) := by
  intro sz
  refine x_in (cc := cX5_secondsOf) (maxL := 2) (ret := (some .int)) (by decide) rfl (Nat.le_of_ble_eq_true rfl) (fun p e s m below meth c A ls hfix hr hlocks hN hK hP hAe hD hA hS hl => ?_)
  obtain ⟨hx, hb, hml, hown, hts⟩ := hfix
  rw [← hAe]
  clear hAe
  have hown : s.vm.findClass RX5 = some m.cls := hown
  have htL : ∀ w ∈ wsL_law, w.before ([.ref adS, .int p0] : List Value).toArray s = true := fun w h => hts w (List.mem_cons_of_mem _ h)
  have hl : lv_has ls 2 [(0, .ref adS), (1, .int p0)] := hl
  refine lv_aload_n hx hb dX5_secondsOf_0 rfl (lv_at hl 0 rfl) ?_
  refine va_get (D := D) (ci := 5) (v := .ref (rS 3)) (C := RX5) (T := TX5) (N := 5) hx hb hts (fun _ h => w_in (inlX5 _ h)) hown hK hP 0 rfl rfl 3 (by decide) (htL _ wd_57) (fun _ h9 => h9) rfl dX5_secondsOf_1 ?_
  refine lv_iload_n hx hb dX5_secondsOf_4 rfl (lv_at hl 1 rfl) ?_
  refine x_ci [4] (va_runSN (As := [.ref (rS 3), .int p0]) (rest := []) ⟨hx, hb, hml, hown, hts⟩ (c_X6_at l D cI cL (rS 3) (qS 3) 8 p0 (by decide) _) ⟨va_cnB 2 hts (gg_ok (fun _ h => w_in h) wd_139) rfl rfl rfl (nm_OverTheShoulder_Sheet_45 hN) (htL _ wd_2) (by decide +kernel) ⟨Nat.le_of_ble_eq_true rfl, Nat.le_of_ble_eq_true rfl⟩, (htL _ wd_138), trivial⟩ (x_ps hN hK hP hD [4] rfl rfl) rfl rfl hl.1 rfl (lv_room (Nat.le_of_ble_eq_true rfl)) dX5_secondsOf_5 ⟨Nat.zero_le _, Nat.zero_le _⟩) hP hD hS hA rfl (fun r_1 H locs er_1 hP hS => ?_)
  have hF1 : F_X5_secondsOf qS nS p0 = r_1 := (eX5_secondsOf_1 qS nS p0 r_1 er_1)
  exact xi_ret hx hb hr hlocks hP hS rfl (congrArg (fun o : Int32 => o) hF1).symm dX5_secondsOf_8

noncomputable def F_X5_has (qS : Nat → Nat → Int32) (nS : Int32) (p0 : Int32) : Int32 :=
  if p0 < 0 then
  (0)
  else
  (if nS ≤ p0 then
  (0)
  else
  (1))
theorem nz_X5_has (qS : Nat → Nat → Int32) (nS : Int32) (p0 : Int32) : narrow .boolean (.int (F_X5_has qS nS p0)) = .int (F_X5_has qS nS p0) := by
  unfold F_X5_has
  try dsimp only
  (repeat' split) <;> rfl
set_option maxRecDepth 100000 in
theorem eX5_has_1 (qS : Nat → Nat → Int32) (nS : Int32) (p0 : Int32) (c_1 : p0 < 0) : F_X5_has qS nS p0 = 0 := by exact (if_pos c_1).trans (rfl)
set_option maxRecDepth 100000 in
theorem eX5_has_2 (qS : Nat → Nat → Int32) (nS : Int32) (p0 : Int32) (c_1 : ¬ (p0 < 0)) (c_2 : nS ≤ p0) : F_X5_has qS nS p0 = 0 := by exact (if_neg c_1).trans ((if_pos c_2).trans (rfl))
set_option maxRecDepth 100000 in
theorem eX5_has_3 (qS : Nat → Nat → Int32) (nS : Int32) (p0 : Int32) (c_1 : ¬ (p0 < 0)) (c_2 : ¬ (nS ≤ p0)) : F_X5_has qS nS p0 = 1 := by exact (if_neg c_1).trans ((if_neg c_2).trans (rfl))
set_option maxHeartbeats 4000000 in
set_option maxRecDepth 100000 in
theorem c_X5_has (l : Launch) (D : va_G) (cI cL : ClassId)   (adS : Nat) (rS : Nat → Nat) (qS : Nat → Nat → Int32) (nS : Int32) (p0 : Int32)  : Xi l yX5_has (wm yX5_has cX5_has 2 (some .boolean)) (xR (0) (0)) D (tyA cI cL) [.ref adS, .int p0] [(adS, .inr (5, [.ref (rS 0), .ref (rS 1), .ref (rS 2), .ref (rS 3), .int nS])), ((rS 0), .inl (cI, 8, .inl (qS 0))), ((rS 1), .inl (cI, 8, .inl (qS 1))), ((rS 2), .inl (cI, 8, .inl (qS 2))), ((rS 3), .inl (cI, 8, .inl (qS 3)))] [(adS, .inr (5, [.ref (rS 0), .ref (rS 1), .ref (rS 2), .ref (rS 3), .int nS])), ((rS 0), .inl (cI, 8, .inl (qS 0))), ((rS 1), .inl (cI, 8, .inl (qS 1))), ((rS 2), .inl (cI, 8, .inl (qS 2))), ((rS 3), .inl (cI, 8, .inl (qS 3)))] (F_X5_has qS nS p0) := by
  intro sz
  refine x_in (cc := cX5_has) (maxL := 2) (ret := (some .boolean)) (by decide) rfl (Nat.le_of_ble_eq_true rfl) (fun p e s m below meth c A ls hfix hr hlocks hN hK hP hAe hD hA hS hl => ?_)
  obtain ⟨hx, hb, hml, hown, hts⟩ := hfix
  rw [← hAe]
  clear hAe
  have hown : s.vm.findClass RX5 = some m.cls := hown
  have htL : ∀ w ∈ wsL_law, w.before ([.ref adS, .int p0] : List Value).toArray s = true := fun w h => hts w (List.mem_cons_of_mem _ h)
  have hl : lv_has ls 2 [(0, .ref adS), (1, .int p0)] := hl
  refine lv_iload_n hx hb dX5_has_0 rfl (lv_at hl 1 rfl) ?_
  refine lv_if_lt (tgt := 16) hx hb dX5_has_1 (by decide) (fun c_1 => ?_) (fun c_1 => ?_)
  · refine lv_iconst (v := 0) hx hb dX5_has_16 (by decide) ?_
    have hF1 : F_X5_has qS nS p0 = 0 := (eX5_has_1 qS nS p0 c_1)
    exact xz_ret hx hb hr hlocks hP hS rfl (congrArg (fun o : Int32 => o) hF1).symm dX5_has_17 rfl
  · refine lv_iload_n hx hb dX5_has_4 rfl (lv_at hl 1 rfl) ?_
    refine lv_aload_n hx hb dX5_has_5 rfl (lv_at hl 0 rfl) ?_
    refine va_get (D := D) (ci := 5) (v := .int nS) (C := RX5) (T := TX5) (N := 5) hx hb hts (fun _ h => w_in (inlX5 _ h)) hown hK hP 0 rfl rfl 4 (by decide) (htL _ wd_58) (fun _ h9 => h9) rfl dX5_has_6 ?_
    refine lv_icmp_ge (tgt := 16) hx hb dX5_has_9 (by decide) (fun c_2 => ?_) (fun c_2 => ?_)
    · refine lv_iconst (v := 0) hx hb dX5_has_16 (by decide) ?_
      have hF1 : F_X5_has qS nS p0 = 0 := (eX5_has_2 qS nS p0 c_1 c_2)
      exact xz_ret hx hb hr hlocks hP hS rfl (congrArg (fun o : Int32 => o) hF1).symm dX5_has_17 rfl
    · refine lv_iconst (v := 1) hx hb dX5_has_12 (by decide) ?_
      refine lv_goto (tgt := 17) hx hb dX5_has_13 (by decide) ?_
      have hF1 : F_X5_has qS nS p0 = 1 := (eX5_has_3 qS nS p0 c_1 c_2)
      exact xz_ret hx hb hr hlocks hP hS rfl (congrArg (fun o : Int32 => o) hF1).symm dX5_has_17 rfl

noncomputable def F_X5_setKind (qS : Nat → Nat → Int32) (nS : Int32) (p0 : Int32) (p1 : Int32) : Nat → Nat → Int32 :=
  let o_1 : Nat → Int32 := (F_X6_put (qS 1) 8 p0 p1)
  (va_up qS 1 o_1)
set_option maxRecDepth 100000 in
theorem eX5_setKind_1 (qS : Nat → Nat → Int32) (nS : Int32) (p0 : Int32) (p1 : Int32) (o_1 : Nat → Int32) (eo_1 : o_1 = (F_X6_put (qS 1) 8 p0 p1)) : F_X5_setKind qS nS p0 p1 = (va_up qS 1 o_1) := by subst eo_1; exact rfl
set_option maxHeartbeats 4000000 in
set_option maxRecDepth 100000 in
theorem c_X5_setKind (l : Launch) (D : va_G) (cI cL : ClassId)   (adS : Nat) (rS : Nat → Nat) (qS : Nat → Nat → Int32) (nS : Int32) (p0 : Int32) (p1 : Int32)  : Xv l yX5_setKind (wm yX5_setKind cX5_setKind 3 none) (xR (1) (22)) D (tyA cI cL) [.ref adS, .int p0, .int p1] [(adS, .inr (5, [.ref (rS 0), .ref (rS 1), .ref (rS 2), .ref (rS 3), .int nS])), ((rS 0), .inl (cI, 8, .inl (qS 0))), ((rS 1), .inl (cI, 8, .inl (qS 1))), ((rS 2), .inl (cI, 8, .inl (qS 2))), ((rS 3), .inl (cI, 8, .inl (qS 3)))] [(adS, .inr (5, [.ref (rS 0), .ref (rS 1), .ref (rS 2), .ref (rS 3), .int nS])), ((rS 0), .inl (cI, 8, .inl ((F_X5_setKind qS nS p0 p1) 0))), ((rS 1), .inl (cI, 8, .inl ((F_X5_setKind qS nS p0 p1) 1))), ((rS 2), .inl (cI, 8, .inl ((F_X5_setKind qS nS p0 p1) 2))), ((rS 3), .inl (cI, 8, .inl ((F_X5_setKind qS nS p0 p1) 3)))] := by
  intro sz
  refine x_in (cc := cX5_setKind) (maxL := 3) (ret := none) (by decide) rfl (Nat.le_of_ble_eq_true rfl) (fun p e s m below meth c A ls hfix hr hlocks hN hK hP hAe hD hA hS hl => ?_)
  obtain ⟨hx, hb, hml, hown, hts⟩ := hfix
  rw [← hAe]
  clear hAe
  have hown : s.vm.findClass RX5 = some m.cls := hown
  have htL : ∀ w ∈ wsL_law, w.before ([.ref adS, .int p0, .int p1] : List Value).toArray s = true := fun w h => hts w (List.mem_cons_of_mem _ h)
  have hl : lv_has ls 3 [(0, .ref adS), (1, .int p0), (2, .int p1)] := hl
  refine lv_aload_n hx hb dX5_setKind_0 rfl (lv_at hl 0 rfl) ?_
  refine va_get (D := D) (ci := 5) (v := .ref (rS 1)) (C := RX5) (T := TX5) (N := 5) hx hb hts (fun _ h => w_in (inlX5 _ h)) hown hK hP 0 rfl rfl 1 (by decide) (htL _ wd_55) (fun _ h9 => h9) rfl dX5_setKind_1 ?_
  refine lv_iload_n hx hb dX5_setKind_4 rfl (lv_at hl 1 rfl) ?_
  refine lv_iload_n hx hb dX5_setKind_5 rfl (lv_at hl 2 rfl) ?_
  refine x_wv2 (a := ([(adS, .inr (5, [.ref (rS 0), .ref (rS 1), .ref (rS 2), .ref (rS 3), .int nS])), ((rS 0), .inl (cI, 8, .inl (qS 0))), ((rS 1), .inl (cI, 8, .inl (qS 1))), ((rS 2), .inl (cI, 8, .inl (qS 2))), ((rS 3), .inl (cI, 8, .inl (qS 3)))] : va_W)) (t := []) (o0 := (F_X6_put (qS 1) 8 p0 p1)) (fun o : Nat → Int32 => ([((rS 1), .inl (cI, 8, .inl o))] : va_W)) (fun o : Nat → Int32 => ([(adS, .inr (5, [.ref (rS 0), .ref (rS 1), .ref (rS 2), .ref (rS 3), .int nS])), ((rS 0), .inl (cI, 8, .inl (qS 0))), ((rS 1), .inl (cI, 8, .inl o)), ((rS 2), .inl (cI, 8, .inl (qS 2))), ((rS 3), .inl (cI, 8, .inl (qS 3)))] : va_W)) [2] [0, 1, 3, 4] (va_runSN (As := [.ref (rS 1), .int p0, .int p1]) (rest := []) ⟨hx, hb, hml, hown, hts⟩ (c_X6_put l D cI cL (rS 1) (qS 1) 8 p0 p1 (by decide) _) ⟨va_cnB 3 hts (gg_ok (fun _ h => w_in h) wd_142) rfl rfl rfl (nm_OverTheShoulder_Sheet_28 hN) (htL _ wd_2) (by decide +kernel) ⟨Nat.le_of_ble_eq_true rfl, Nat.le_of_ble_eq_true rfl⟩, (htL _ wd_141), trivial⟩ (x_ps hN hK hP hD [2] rfl rfl) rfl rfl hl.1 rfl (lv_room (Nat.le_of_ble_eq_true rfl)) dX5_setKind_6 ⟨Nat.zero_le _, Nat.zero_le _⟩) hP hD hS hA rfl (fun _ => rfl) (fun _ => rfl) [(adS, .inr (5, [.ref (rS 0), .ref (rS 1), .ref (rS 2), .ref (rS 3), .int nS])), ((rS 0), .inl (cI, 8, .inl (qS 0))), ((rS 2), .inl (cI, 8, .inl (qS 2))), ((rS 3), .inl (cI, 8, .inl (qS 3)))] rfl (fun _ => rfl) rfl (fun o_1 H locs eo_1 hP hD hS => ?_)
  have hP : va_P D vwCl [(adS, .inr (5, [.ref (rS 0), .ref (rS 1), .ref (rS 2), .ref (rS 3), .int nS])), ((rS 0), .inl (cI, 8, .inl (qS 0))), ((rS 1), .inl (cI, 8, .inl o_1)), ((rS 2), .inl (cI, 8, .inl (qS 2))), ((rS 3), .inl (cI, 8, .inl (qS 3)))] _ := hP
  have hD : va_D A [(adS, .inr (5, [.ref (rS 0), .ref (rS 1), .ref (rS 2), .ref (rS 3), .int nS])), ((rS 0), .inl (cI, 8, .inl (qS 0))), ((rS 1), .inl (cI, 8, .inl o_1)), ((rS 2), .inl (cI, 8, .inl (qS 2))), ((rS 3), .inl (cI, 8, .inl (qS 3)))] := hD
  have hF1 : F_X5_setKind qS nS p0 p1 = (va_up qS 1 o_1) := (eX5_setKind_1 qS nS p0 p1 o_1 eo_1)
  exact xv_ret hx hb hr hlocks hP hS (congrArg (fun o : Nat → Nat → Int32 => ([(adS, .inr (5, [.ref (rS 0), .ref (rS 1), .ref (rS 2), .ref (rS 3), .int nS])), ((rS 0), .inl (cI, 8, .inl (o 0))), ((rS 1), .inl (cI, 8, .inl (o 1))), ((rS 2), .inl (cI, 8, .inl (o 2))), ((rS 3), .inl (cI, 8, .inl (o 3)))] : va_W)) hF1).symm dX5_setKind_9

noncomputable def F_X5_aheadOf_L4 (qS : Nat → Nat → Int32) (nS : Int32) (p0 : Int32) : Nat → Int32 → Int32 → Int32
  | 0, _, _ => default
  | n + 1, v2a, v3a =>
  if p0 ≤ v3a then
  (v2a)
  else
  (if nS ≤ v3a then
  (v2a)
  else
  (let r_3 : Int32 := (F_X6_at (qS 0) 8 v3a)
  let r_4 : Int32 := (F_X6_at (qS 0) 8 p0)
  if r_3 = r_4 then
  (let x_7 : Int32 := v2a + 1
  let x_8 : Int32 := v3a + 1
  F_X5_aheadOf_L4 qS nS p0 n x_7 x_8)
  else
  (let x_6 : Int32 := v3a + 1
  F_X5_aheadOf_L4 qS nS p0 n v2a x_6)))
noncomputable def F_X5_aheadOf (qS : Nat → Nat → Int32) (nS : Int32) (p0 : Int32) : Int32 :=
  F_X5_aheadOf_L4 qS nS p0 (((p0.toInt - (0 : Int32).toInt).toNat) + 1) 0 0
set_option maxRecDepth 100000 in
theorem eX5_aheadOf_1 (qS : Nat → Nat → Int32) (nS : Int32) (p0 : Int32) (nf : Nat) (v2a : Int32) (v3a : Int32) (c_1 : p0 ≤ v3a) : F_X5_aheadOf_L4 qS nS p0 (nf + 1) v2a v3a = v2a := by exact (if_pos c_1).trans (rfl)
set_option maxRecDepth 100000 in
theorem eX5_aheadOf_2 (qS : Nat → Nat → Int32) (nS : Int32) (p0 : Int32) (nf : Nat) (v2a : Int32) (v3a : Int32) (c_1 : ¬ (p0 ≤ v3a)) (c_2 : nS ≤ v3a) : F_X5_aheadOf_L4 qS nS p0 (nf + 1) v2a v3a = v2a := by exact (if_neg c_1).trans ((if_pos c_2).trans (rfl))
set_option maxRecDepth 100000 in
theorem eX5_aheadOf_3 (qS : Nat → Nat → Int32) (nS : Int32) (p0 : Int32) (nf : Nat) (v2a : Int32) (v3a : Int32) (r_3 : Int32) (r_4 : Int32) (x_6 : Int32) (er_3 : r_3 = (F_X6_at (qS 0) 8 v3a)) (er_4 : r_4 = (F_X6_at (qS 0) 8 p0)) (ex_6 : x_6 = v3a + 1) (c_1 : ¬ (p0 ≤ v3a)) (c_2 : ¬ (nS ≤ v3a)) (c_5 : ¬ (r_3 = r_4)) : F_X5_aheadOf_L4 qS nS p0 (nf + 1) v2a v3a = F_X5_aheadOf_L4 qS nS p0 nf v2a x_6 := by subst er_3 er_4 ex_6; exact (if_neg c_1).trans ((if_neg c_2).trans ((if_neg c_5).trans (rfl)))
set_option maxRecDepth 100000 in
theorem eX5_aheadOf_4 (qS : Nat → Nat → Int32) (nS : Int32) (p0 : Int32) (nf : Nat) (v2a : Int32) (v3a : Int32) (r_3 : Int32) (r_4 : Int32) (x_7 : Int32) (x_8 : Int32) (er_3 : r_3 = (F_X6_at (qS 0) 8 v3a)) (er_4 : r_4 = (F_X6_at (qS 0) 8 p0)) (ex_7 : x_7 = v2a + 1) (ex_8 : x_8 = v3a + 1) (c_1 : ¬ (p0 ≤ v3a)) (c_2 : ¬ (nS ≤ v3a)) (c_5 : r_3 = r_4) : F_X5_aheadOf_L4 qS nS p0 (nf + 1) v2a v3a = F_X5_aheadOf_L4 qS nS p0 nf x_7 x_8 := by subst er_3 er_4 ex_7 ex_8; exact (if_neg c_1).trans ((if_neg c_2).trans ((if_pos c_5).trans (rfl)))
set_option maxHeartbeats 4000000 in
set_option maxRecDepth 100000 in
theorem c_X5_aheadOf (l : Launch) (D : va_G) (cI cL : ClassId)   (adS : Nat) (rS : Nat → Nat) (qS : Nat → Nat → Int32) (nS : Int32) (p0 : Int32)  : Xi l yX5_aheadOf (wm yX5_aheadOf cX5_aheadOf 4 (some .int)) (xR (1) (21)) D (tyA cI cL) [.ref adS, .int p0] [(adS, .inr (5, [.ref (rS 0), .ref (rS 1), .ref (rS 2), .ref (rS 3), .int nS])), ((rS 0), .inl (cI, 8, .inl (qS 0))), ((rS 1), .inl (cI, 8, .inl (qS 1))), ((rS 2), .inl (cI, 8, .inl (qS 2))), ((rS 3), .inl (cI, 8, .inl (qS 3)))] [(adS, .inr (5, [.ref (rS 0), .ref (rS 1), .ref (rS 2), .ref (rS 3), .int nS])), ((rS 0), .inl (cI, 8, .inl (qS 0))), ((rS 1), .inl (cI, 8, .inl (qS 1))), ((rS 2), .inl (cI, 8, .inl (qS 2))), ((rS 3), .inl (cI, 8, .inl (qS 3)))] (F_X5_aheadOf qS nS p0) := by
  intro sz
  refine x_in (cc := cX5_aheadOf) (maxL := 4) (ret := (some .int)) (by decide) rfl (Nat.le_of_ble_eq_true rfl) (fun p e s m below meth c A ls hfix hr hlocks hN hK hP hAe hD hA hS hl => ?_)
  obtain ⟨hx, hb, hml, hown, hts⟩ := hfix
  rw [← hAe]
  clear hAe
  have hown : s.vm.findClass RX5 = some m.cls := hown
  have htL : ∀ w ∈ wsL_law, w.before ([.ref adS, .int p0] : List Value).toArray s = true := fun w h => hts w (List.mem_cons_of_mem _ h)
  have hl : lv_has ls 4 [(0, .ref adS), (1, .int p0)] := hl
  refine lv_iconst (v := 0) hx hb dX5_aheadOf_0 (by decide) ?_
  refine lv_istore_n (lv' := [(2, .int 0), (0, .ref adS), (1, .int p0)]) hx hb dX5_aheadOf_1 rfl hl (by decide) rfl (fun ls hl => ?_)
  refine lv_iconst (v := 0) hx hb dX5_aheadOf_2 (by decide) ?_
  refine lv_istore_n (lv' := [(3, .int 0), (2, .int 0), (0, .ref adS), (1, .int p0)]) hx hb dX5_aheadOf_3 rfl hl (by decide) rfl (fun ls hl => ?_)
  have loop : ∀ (nf : Nat) (v2a : Int32) (v3a : Int32) (H : Heap) (locs : List Loc) (ls : Array Slot), (p0.toInt - v3a.toInt).toNat < nf → F_X5_aheadOf qS nS p0 = F_X5_aheadOf_L4 qS nS p0 nf v2a v3a → va_P D vwCl [(adS, .inr (5, [.ref (rS 0), .ref (rS 1), .ref (rS 2), .ref (rS 3), .int nS])), ((rS 0), .inl (cI, 8, .inl (qS 0))), ((rS 1), .inl (cI, 8, .inl (qS 1))), ((rS 2), .inl (cI, 8, .inl (qS 2))), ((rS 3), .inl (cI, 8, .inl (qS 3)))] H → va_D A [(adS, .inr (5, [.ref (rS 0), .ref (rS 1), .ref (rS 2), .ref (rS 3), .int nS])), ((rS 0), .inl (cI, 8, .inl (qS 0))), ((rS 1), .inl (cI, 8, .inl (qS 1))), ((rS 2), .inl (cI, 8, .inl (qS 2))), ((rS 3), .inl (cI, 8, .inl (qS 3)))] → va_S A s.heap H locs → lv_has ls 4 [(3, .int v3a), (2, .int v2a), (0, .ref adS), (1, .int p0)] → W p l e (xR (1) (21)) s m ([.ref adS, .int p0] : List Value).toArray below meth c H locs 0 0 (MQ below (va_Qi (fun (r' : Int32) (_ : Unit) => r' = (F_X5_aheadOf qS nS p0)) (xE D [(adS, .inr (5, [.ref (rS 0), .ref (rS 1), .ref (rS 2), .ref (rS 3), .int nS])), ((rS 0), .inl (cI, 8, .inl (qS 0))), ((rS 1), .inl (cI, 8, .inl (qS 1))), ((rS 2), .inl (cI, 8, .inl (qS 2))), ((rS 3), .inl (cI, 8, .inl (qS 3)))]) A) ([.ref adS, .int p0] : List Value).toArray s 0 0 A) (F0 m 4 ls []) := by
    intro nf
    induction nf with
    | zero => intro v2a v3a H locs ls hm; exact absurd hm (Nat.not_lt_zero _)
    | succ nf ih =>
      intro v2a v3a H locs ls hm hF hP hD hS hl
      refine lv_iload_n hx hb dX5_aheadOf_4 rfl (lv_at hl 0 rfl) ?_
      refine lv_iload_n hx hb dX5_aheadOf_5 rfl (lv_at hl 3 rfl) ?_
      refine lv_icmp_ge (tgt := 45) hx hb dX5_aheadOf_6 (by decide) (fun c_1 => ?_) (fun c_1 => ?_)
      · refine lv_iload_n hx hb dX5_aheadOf_45 rfl (lv_at hl 1 rfl) ?_
        have hF1 : F_X5_aheadOf qS nS p0 = v2a := hF.trans (eX5_aheadOf_1 qS nS p0 nf v2a v3a c_1)
        exact xi_ret hx hb hr hlocks hP hS rfl (congrArg (fun o : Int32 => o) hF1).symm dX5_aheadOf_46
      · refine lv_iload_n hx hb dX5_aheadOf_9 rfl (lv_at hl 0 rfl) ?_
        refine lv_aload_n hx hb dX5_aheadOf_10 rfl (lv_at hl 2 rfl) ?_
        refine va_get (D := D) (ci := 5) (v := .int nS) (C := RX5) (T := TX5) (N := 5) hx hb hts (fun _ h => w_in (inlX5 _ h)) hown hK hP 0 rfl rfl 4 (by decide) (htL _ wd_58) (fun _ h9 => h9) rfl dX5_aheadOf_11 ?_
        refine lv_icmp_ge (tgt := 45) hx hb dX5_aheadOf_14 (by decide) (fun c_2 => ?_) (fun c_2 => ?_)
        · refine lv_iload_n hx hb dX5_aheadOf_45 rfl (lv_at hl 1 rfl) ?_
          have hF1 : F_X5_aheadOf qS nS p0 = v2a := hF.trans (eX5_aheadOf_2 qS nS p0 nf v2a v3a c_1 c_2)
          exact xi_ret hx hb hr hlocks hP hS rfl (congrArg (fun o : Int32 => o) hF1).symm dX5_aheadOf_46
        · refine lv_aload_n hx hb dX5_aheadOf_17 rfl (lv_at hl 2 rfl) ?_
          refine va_get (D := D) (ci := 5) (v := .ref (rS 0)) (C := RX5) (T := TX5) (N := 5) hx hb hts (fun _ h => w_in (inlX5 _ h)) hown hK hP 0 rfl rfl 0 (by decide) (htL _ wd_54) (fun _ h9 => h9) rfl dX5_aheadOf_18 ?_
          refine lv_iload_n hx hb dX5_aheadOf_21 rfl (lv_at hl 0 rfl) ?_
          refine x_ci [1] (va_runSN (As := [.ref (rS 0), .int v3a]) (rest := []) ⟨hx, hb, hml, hown, hts⟩ (c_X6_at l D cI cL (rS 0) (qS 0) 8 v3a (by decide) _) ⟨va_cnB 2 hts (gg_ok (fun _ h => w_in h) wd_139) rfl rfl rfl (nm_OverTheShoulder_Sheet_45 hN) (htL _ wd_2) (by decide +kernel) ⟨Nat.le_of_ble_eq_true rfl, Nat.le_of_ble_eq_true rfl⟩, (htL _ wd_138), trivial⟩ (x_ps hN hK hP hD [1] rfl rfl) rfl rfl hl.1 rfl (lv_room (Nat.le_of_ble_eq_true rfl)) dX5_aheadOf_22 ⟨Nat.zero_le _, Nat.zero_le _⟩) hP hD hS hA rfl (fun r_3 H locs er_3 hP hS => ?_)
          refine lv_aload_n hx hb dX5_aheadOf_25 rfl (lv_at hl 2 rfl) ?_
          refine va_get (D := D) (ci := 5) (v := .ref (rS 0)) (C := RX5) (T := TX5) (N := 5) hx hb hts (fun _ h => w_in (inlX5 _ h)) hown hK hP 0 rfl rfl 0 (by decide) (htL _ wd_54) (fun _ h9 => h9) rfl dX5_aheadOf_26 ?_
          refine lv_iload_n hx hb dX5_aheadOf_29 rfl (lv_at hl 3 rfl) ?_
          refine x_ci [1] (va_runSN (As := [.ref (rS 0), .int p0]) (rest := [.int r_3]) ⟨hx, hb, hml, hown, hts⟩ (c_X6_at l D cI cL (rS 0) (qS 0) 8 p0 (by decide) _) ⟨va_cnB 2 hts (gg_ok (fun _ h => w_in h) wd_139) rfl rfl rfl (nm_OverTheShoulder_Sheet_45 hN) (htL _ wd_2) (by decide +kernel) ⟨Nat.le_of_ble_eq_true rfl, Nat.le_of_ble_eq_true rfl⟩, (htL _ wd_138), trivial⟩ (x_ps hN hK hP hD [1] rfl rfl) rfl rfl hl.1 rfl (lv_room (Nat.le_of_ble_eq_true rfl)) dX5_aheadOf_30 ⟨Nat.zero_le _, Nat.zero_le _⟩) hP hD hS hA rfl (fun r_4 H locs er_4 hP hS => ?_)
          refine lv_icmp_ne (tgt := 39) hx hb dX5_aheadOf_33 (by decide) (fun c_5 => ?_) (fun c_5 => ?_)
          · obtain ⟨x_6, ex_6⟩ : ∃ y : Int32, y = v3a + 1 := ⟨_, rfl⟩
            refine lv_iinc (v := x_6) (lv' := [(3, .int x_6), (2, .int v2a), (0, .ref adS), (1, .int p0)]) hx hb dX5_aheadOf_39 hl (k := 0) rfl (by rw [ex_6]; rfl) (by decide) rfl (fun ls hl => ?_)
            refine lv_goto (tgt := 4) hx hb dX5_aheadOf_42 (by decide) ?_
            exact ih v2a x_6 _ _ _ (by rw [ex_6]; first | exact x_up (by assumption) hm | exact x_up' (by assumption) hm | exact x_up c_1 hm | exact x_up c_2 hm | omega) (hF.trans (eX5_aheadOf_3 qS nS p0 nf v2a v3a r_3 r_4 x_6 er_3 er_4 ex_6 c_1 c_2 c_5)) hP hD hS (lv_sub hl [0, 1, 2, 3] rfl)
          · obtain ⟨x_7, ex_7⟩ : ∃ y : Int32, y = v2a + 1 := ⟨_, rfl⟩
            refine lv_iinc (v := x_7) (lv' := [(2, .int x_7), (3, .int v3a), (0, .ref adS), (1, .int p0)]) hx hb dX5_aheadOf_36 hl (k := 1) rfl (by rw [ex_7]; rfl) (by decide) rfl (fun ls hl => ?_)
            obtain ⟨x_8, ex_8⟩ : ∃ y : Int32, y = v3a + 1 := ⟨_, rfl⟩
            refine lv_iinc (v := x_8) (lv' := [(3, .int x_8), (2, .int x_7), (0, .ref adS), (1, .int p0)]) hx hb dX5_aheadOf_39 hl (k := 1) rfl (by rw [ex_8]; rfl) (by decide) rfl (fun ls hl => ?_)
            refine lv_goto (tgt := 4) hx hb dX5_aheadOf_42 (by decide) ?_
            exact ih x_7 x_8 _ _ _ (by rw [ex_8]; first | exact x_up (by assumption) hm | exact x_up' (by assumption) hm | exact x_up c_1 hm | exact x_up c_2 hm | omega) (hF.trans (eX5_aheadOf_4 qS nS p0 nf v2a v3a r_3 r_4 x_7 x_8 er_3 er_4 ex_7 ex_8 c_1 c_2 c_5)) hP hD hS (lv_sub hl [0, 1, 2, 3] rfl)
  exact loop (((p0.toInt - (0 : Int32).toInt).toNat) + 1) 0 0 _ _ _ (Nat.lt_succ_self _) rfl hP hD hS hl

noncomputable def F_X5_isHelped_L4 (qS : Nat → Nat → Int32) (nS : Int32) (p0 : Int32) : Nat → Int32 → Int32 → Int32
  | 0, _, _ => default
  | n + 1, v2a, v3a =>
  if p0 ≤ v3a then
  (v2a)
  else
  (if nS ≤ v3a then
  (v2a)
  else
  (let r_3 : Int32 := (F_X6_at (qS 0) 8 v3a)
  let r_4 : Int32 := (F_X6_at (qS 0) 8 p0)
  if r_3 = r_4 then
  (let r_7 : Int32 := (F_X6_at (qS 1) 8 v3a)
  if r_7 = 3 then
  (let x_9 : Int32 := v3a + 1
  F_X5_isHelped_L4 qS nS p0 n 0 x_9)
  else
  (let x_10 : Int32 := v3a + 1
  F_X5_isHelped_L4 qS nS p0 n 1 x_10))
  else
  (let x_6 : Int32 := v3a + 1
  F_X5_isHelped_L4 qS nS p0 n v2a x_6)))
noncomputable def F_X5_isHelped (qS : Nat → Nat → Int32) (nS : Int32) (p0 : Int32) : Int32 :=
  F_X5_isHelped_L4 qS nS p0 (((p0.toInt - (0 : Int32).toInt).toNat) + 1) 0 0
set_option maxRecDepth 100000 in
theorem eX5_isHelped_1 (qS : Nat → Nat → Int32) (nS : Int32) (p0 : Int32) (nf : Nat) (v2a : Int32) (v3a : Int32) (c_1 : p0 ≤ v3a) : F_X5_isHelped_L4 qS nS p0 (nf + 1) v2a v3a = v2a := by exact (if_pos c_1).trans (rfl)
set_option maxRecDepth 100000 in
theorem eX5_isHelped_2 (qS : Nat → Nat → Int32) (nS : Int32) (p0 : Int32) (nf : Nat) (v2a : Int32) (v3a : Int32) (c_1 : ¬ (p0 ≤ v3a)) (c_2 : nS ≤ v3a) : F_X5_isHelped_L4 qS nS p0 (nf + 1) v2a v3a = v2a := by exact (if_neg c_1).trans ((if_pos c_2).trans (rfl))
set_option maxRecDepth 100000 in
theorem eX5_isHelped_3 (qS : Nat → Nat → Int32) (nS : Int32) (p0 : Int32) (nf : Nat) (v2a : Int32) (v3a : Int32) (r_3 : Int32) (r_4 : Int32) (x_6 : Int32) (er_3 : r_3 = (F_X6_at (qS 0) 8 v3a)) (er_4 : r_4 = (F_X6_at (qS 0) 8 p0)) (ex_6 : x_6 = v3a + 1) (c_1 : ¬ (p0 ≤ v3a)) (c_2 : ¬ (nS ≤ v3a)) (c_5 : ¬ (r_3 = r_4)) : F_X5_isHelped_L4 qS nS p0 (nf + 1) v2a v3a = F_X5_isHelped_L4 qS nS p0 nf v2a x_6 := by subst er_3 er_4 ex_6; exact (if_neg c_1).trans ((if_neg c_2).trans ((if_neg c_5).trans (rfl)))
set_option maxRecDepth 100000 in
theorem eX5_isHelped_4 (qS : Nat → Nat → Int32) (nS : Int32) (p0 : Int32) (nf : Nat) (v2a : Int32) (v3a : Int32) (r_3 : Int32) (r_4 : Int32) (r_7 : Int32) (x_9 : Int32) (er_3 : r_3 = (F_X6_at (qS 0) 8 v3a)) (er_4 : r_4 = (F_X6_at (qS 0) 8 p0)) (er_7 : r_7 = (F_X6_at (qS 1) 8 v3a)) (ex_9 : x_9 = v3a + 1) (c_1 : ¬ (p0 ≤ v3a)) (c_2 : ¬ (nS ≤ v3a)) (c_5 : r_3 = r_4) (c_8 : r_7 = 3) : F_X5_isHelped_L4 qS nS p0 (nf + 1) v2a v3a = F_X5_isHelped_L4 qS nS p0 nf 0 x_9 := by subst er_3 er_4 er_7 ex_9; exact (if_neg c_1).trans ((if_neg c_2).trans ((if_pos c_5).trans ((if_pos c_8).trans (rfl))))
set_option maxRecDepth 100000 in
theorem eX5_isHelped_5 (qS : Nat → Nat → Int32) (nS : Int32) (p0 : Int32) (nf : Nat) (v2a : Int32) (v3a : Int32) (r_3 : Int32) (r_4 : Int32) (r_7 : Int32) (x_10 : Int32) (er_3 : r_3 = (F_X6_at (qS 0) 8 v3a)) (er_4 : r_4 = (F_X6_at (qS 0) 8 p0)) (er_7 : r_7 = (F_X6_at (qS 1) 8 v3a)) (ex_10 : x_10 = v3a + 1) (c_1 : ¬ (p0 ≤ v3a)) (c_2 : ¬ (nS ≤ v3a)) (c_5 : r_3 = r_4) (c_8 : ¬ (r_7 = 3)) : F_X5_isHelped_L4 qS nS p0 (nf + 1) v2a v3a = F_X5_isHelped_L4 qS nS p0 nf 1 x_10 := by subst er_3 er_4 er_7 ex_10; exact (if_neg c_1).trans ((if_neg c_2).trans ((if_pos c_5).trans ((if_neg c_8).trans (rfl))))
set_option maxHeartbeats 4000000 in
set_option maxRecDepth 100000 in
theorem c_X5_isHelped (l : Launch) (D : va_G) (cI cL : ClassId)   (adS : Nat) (rS : Nat → Nat) (qS : Nat → Nat → Int32) (nS : Int32) (p0 : Int32)  : Xi l yX5_isHelped (wm yX5_isHelped cX5_isHelped 4 (some .boolean)) (xR (1) (21)) D (tyA cI cL) [.ref adS, .int p0] [(adS, .inr (5, [.ref (rS 0), .ref (rS 1), .ref (rS 2), .ref (rS 3), .int nS])), ((rS 0), .inl (cI, 8, .inl (qS 0))), ((rS 1), .inl (cI, 8, .inl (qS 1))), ((rS 2), .inl (cI, 8, .inl (qS 2))), ((rS 3), .inl (cI, 8, .inl (qS 3)))] [(adS, .inr (5, [.ref (rS 0), .ref (rS 1), .ref (rS 2), .ref (rS 3), .int nS])), ((rS 0), .inl (cI, 8, .inl (qS 0))), ((rS 1), .inl (cI, 8, .inl (qS 1))), ((rS 2), .inl (cI, 8, .inl (qS 2))), ((rS 3), .inl (cI, 8, .inl (qS 3)))] (F_X5_isHelped qS nS p0) := by
  intro sz
  refine x_in (cc := cX5_isHelped) (maxL := 4) (ret := (some .boolean)) (by decide) rfl (Nat.le_of_ble_eq_true rfl) (fun p e s m below meth c A ls hfix hr hlocks hN hK hP hAe hD hA hS hl => ?_)
  obtain ⟨hx, hb, hml, hown, hts⟩ := hfix
  rw [← hAe]
  clear hAe
  have hown : s.vm.findClass RX5 = some m.cls := hown
  have htL : ∀ w ∈ wsL_law, w.before ([.ref adS, .int p0] : List Value).toArray s = true := fun w h => hts w (List.mem_cons_of_mem _ h)
  have hl : lv_has ls 4 [(0, .ref adS), (1, .int p0)] := hl
  refine lv_iconst (v := 0) hx hb dX5_isHelped_0 (by decide) ?_
  refine lv_istore_n (lv' := [(2, .int 0), (0, .ref adS), (1, .int p0)]) hx hb dX5_isHelped_1 rfl hl (by decide) rfl (fun ls hl => ?_)
  refine lv_iconst (v := 0) hx hb dX5_isHelped_2 (by decide) ?_
  refine lv_istore_n (lv' := [(3, .int 0), (2, .int 0), (0, .ref adS), (1, .int p0)]) hx hb dX5_isHelped_3 rfl hl (by decide) rfl (fun ls hl => ?_)
  have loop : ∀ (nf : Nat) (v2a : Int32) (v3a : Int32) (H : Heap) (locs : List Loc) (ls : Array Slot), zb v2a → (p0.toInt - v3a.toInt).toNat < nf → F_X5_isHelped qS nS p0 = F_X5_isHelped_L4 qS nS p0 nf v2a v3a → va_P D vwCl [(adS, .inr (5, [.ref (rS 0), .ref (rS 1), .ref (rS 2), .ref (rS 3), .int nS])), ((rS 0), .inl (cI, 8, .inl (qS 0))), ((rS 1), .inl (cI, 8, .inl (qS 1))), ((rS 2), .inl (cI, 8, .inl (qS 2))), ((rS 3), .inl (cI, 8, .inl (qS 3)))] H → va_D A [(adS, .inr (5, [.ref (rS 0), .ref (rS 1), .ref (rS 2), .ref (rS 3), .int nS])), ((rS 0), .inl (cI, 8, .inl (qS 0))), ((rS 1), .inl (cI, 8, .inl (qS 1))), ((rS 2), .inl (cI, 8, .inl (qS 2))), ((rS 3), .inl (cI, 8, .inl (qS 3)))] → va_S A s.heap H locs → lv_has ls 4 [(3, .int v3a), (2, .int v2a), (0, .ref adS), (1, .int p0)] → W p l e (xR (1) (21)) s m ([.ref adS, .int p0] : List Value).toArray below meth c H locs 0 0 (MQ below (va_Qi (fun (r' : Int32) (_ : Unit) => r' = (F_X5_isHelped qS nS p0)) (xE D [(adS, .inr (5, [.ref (rS 0), .ref (rS 1), .ref (rS 2), .ref (rS 3), .int nS])), ((rS 0), .inl (cI, 8, .inl (qS 0))), ((rS 1), .inl (cI, 8, .inl (qS 1))), ((rS 2), .inl (cI, 8, .inl (qS 2))), ((rS 3), .inl (cI, 8, .inl (qS 3)))]) A) ([.ref adS, .int p0] : List Value).toArray s 0 0 A) (F0 m 4 ls []) := by
    intro nf
    induction nf with
    | zero => intro v2a v3a H locs ls hz2 hm; exact absurd hm (Nat.not_lt_zero _)
    | succ nf ih =>
      intro v2a v3a H locs ls hz2 hm hF hP hD hS hl
      refine lv_iload_n hx hb dX5_isHelped_4 rfl (lv_at hl 0 rfl) ?_
      refine lv_iload_n hx hb dX5_isHelped_5 rfl (lv_at hl 3 rfl) ?_
      refine lv_icmp_ge (tgt := 60) hx hb dX5_isHelped_6 (by decide) (fun c_1 => ?_) (fun c_1 => ?_)
      · refine lv_iload_n hx hb dX5_isHelped_60 rfl (lv_at hl 1 rfl) ?_
        have hF1 : F_X5_isHelped qS nS p0 = v2a := hF.trans (eX5_isHelped_1 qS nS p0 nf v2a v3a c_1)
        exact xz_ret hx hb hr hlocks hP hS rfl (congrArg (fun o : Int32 => o) hF1).symm dX5_isHelped_61 (by first | assumption | exact (show zb v2a by assumption).1)
      · refine lv_iload_n hx hb dX5_isHelped_9 rfl (lv_at hl 0 rfl) ?_
        refine lv_aload_n hx hb dX5_isHelped_10 rfl (lv_at hl 2 rfl) ?_
        refine va_get (D := D) (ci := 5) (v := .int nS) (C := RX5) (T := TX5) (N := 5) hx hb hts (fun _ h => w_in (inlX5 _ h)) hown hK hP 0 rfl rfl 4 (by decide) (htL _ wd_58) (fun _ h9 => h9) rfl dX5_isHelped_11 ?_
        refine lv_icmp_ge (tgt := 60) hx hb dX5_isHelped_14 (by decide) (fun c_2 => ?_) (fun c_2 => ?_)
        · refine lv_iload_n hx hb dX5_isHelped_60 rfl (lv_at hl 1 rfl) ?_
          have hF1 : F_X5_isHelped qS nS p0 = v2a := hF.trans (eX5_isHelped_2 qS nS p0 nf v2a v3a c_1 c_2)
          exact xz_ret hx hb hr hlocks hP hS rfl (congrArg (fun o : Int32 => o) hF1).symm dX5_isHelped_61 (by first | assumption | exact (show zb v2a by assumption).1)
        · refine lv_aload_n hx hb dX5_isHelped_17 rfl (lv_at hl 2 rfl) ?_
          refine va_get (D := D) (ci := 5) (v := .ref (rS 0)) (C := RX5) (T := TX5) (N := 5) hx hb hts (fun _ h => w_in (inlX5 _ h)) hown hK hP 0 rfl rfl 0 (by decide) (htL _ wd_54) (fun _ h9 => h9) rfl dX5_isHelped_18 ?_
          refine lv_iload_n hx hb dX5_isHelped_21 rfl (lv_at hl 0 rfl) ?_
          refine x_ci [1] (va_runSN (As := [.ref (rS 0), .int v3a]) (rest := []) ⟨hx, hb, hml, hown, hts⟩ (c_X6_at l D cI cL (rS 0) (qS 0) 8 v3a (by decide) _) ⟨va_cnB 2 hts (gg_ok (fun _ h => w_in h) wd_139) rfl rfl rfl (nm_OverTheShoulder_Sheet_45 hN) (htL _ wd_2) (by decide +kernel) ⟨Nat.le_of_ble_eq_true rfl, Nat.le_of_ble_eq_true rfl⟩, (htL _ wd_138), trivial⟩ (x_ps hN hK hP hD [1] rfl rfl) rfl rfl hl.1 rfl (lv_room (Nat.le_of_ble_eq_true rfl)) dX5_isHelped_22 ⟨Nat.zero_le _, Nat.zero_le _⟩) hP hD hS hA rfl (fun r_3 H locs er_3 hP hS => ?_)
          refine lv_aload_n hx hb dX5_isHelped_25 rfl (lv_at hl 2 rfl) ?_
          refine va_get (D := D) (ci := 5) (v := .ref (rS 0)) (C := RX5) (T := TX5) (N := 5) hx hb hts (fun _ h => w_in (inlX5 _ h)) hown hK hP 0 rfl rfl 0 (by decide) (htL _ wd_54) (fun _ h9 => h9) rfl dX5_isHelped_26 ?_
          refine lv_iload_n hx hb dX5_isHelped_29 rfl (lv_at hl 3 rfl) ?_
          refine x_ci [1] (va_runSN (As := [.ref (rS 0), .int p0]) (rest := [.int r_3]) ⟨hx, hb, hml, hown, hts⟩ (c_X6_at l D cI cL (rS 0) (qS 0) 8 p0 (by decide) _) ⟨va_cnB 2 hts (gg_ok (fun _ h => w_in h) wd_139) rfl rfl rfl (nm_OverTheShoulder_Sheet_45 hN) (htL _ wd_2) (by decide +kernel) ⟨Nat.le_of_ble_eq_true rfl, Nat.le_of_ble_eq_true rfl⟩, (htL _ wd_138), trivial⟩ (x_ps hN hK hP hD [1] rfl rfl) rfl rfl hl.1 rfl (lv_room (Nat.le_of_ble_eq_true rfl)) dX5_isHelped_30 ⟨Nat.zero_le _, Nat.zero_le _⟩) hP hD hS hA rfl (fun r_4 H locs er_4 hP hS => ?_)
          refine lv_icmp_ne (tgt := 54) hx hb dX5_isHelped_33 (by decide) (fun c_5 => ?_) (fun c_5 => ?_)
          · obtain ⟨x_6, ex_6⟩ : ∃ y : Int32, y = v3a + 1 := ⟨_, rfl⟩
            refine lv_iinc (v := x_6) (lv' := [(3, .int x_6), (2, .int v2a), (0, .ref adS), (1, .int p0)]) hx hb dX5_isHelped_54 hl (k := 0) rfl (by rw [ex_6]; rfl) (by decide) rfl (fun ls hl => ?_)
            refine lv_goto (tgt := 4) hx hb dX5_isHelped_57 (by decide) ?_
            exact ih v2a x_6 _ _ _ (by first | assumption | exact zb_0 | exact zb_1 | omega) (by rw [ex_6]; first | exact x_up (by assumption) hm | exact x_up' (by assumption) hm | exact x_up c_1 hm | exact x_up c_2 hm | omega) (hF.trans (eX5_isHelped_3 qS nS p0 nf v2a v3a r_3 r_4 x_6 er_3 er_4 ex_6 c_1 c_2 c_5)) hP hD hS (lv_sub hl [0, 1, 2, 3] rfl)
          · refine lv_aload_n hx hb dX5_isHelped_36 rfl (lv_at hl 2 rfl) ?_
            refine va_get (D := D) (ci := 5) (v := .ref (rS 1)) (C := RX5) (T := TX5) (N := 5) hx hb hts (fun _ h => w_in (inlX5 _ h)) hown hK hP 0 rfl rfl 1 (by decide) (htL _ wd_55) (fun _ h9 => h9) rfl dX5_isHelped_37 ?_
            refine lv_iload_n hx hb dX5_isHelped_40 rfl (lv_at hl 0 rfl) ?_
            refine x_ci [2] (va_runSN (As := [.ref (rS 1), .int v3a]) (rest := []) ⟨hx, hb, hml, hown, hts⟩ (c_X6_at l D cI cL (rS 1) (qS 1) 8 v3a (by decide) _) ⟨va_cnB 2 hts (gg_ok (fun _ h => w_in h) wd_139) rfl rfl rfl (nm_OverTheShoulder_Sheet_45 hN) (htL _ wd_2) (by decide +kernel) ⟨Nat.le_of_ble_eq_true rfl, Nat.le_of_ble_eq_true rfl⟩, (htL _ wd_138), trivial⟩ (x_ps hN hK hP hD [2] rfl rfl) rfl rfl hl.1 rfl (lv_room (Nat.le_of_ble_eq_true rfl)) dX5_isHelped_41 ⟨Nat.zero_le _, Nat.zero_le _⟩) hP hD hS hA rfl (fun r_7 H locs er_7 hP hS => ?_)
            refine lv_iconst (v := 3) hx hb dX5_isHelped_44 (by decide) ?_
            refine lv_icmp_eq (tgt := 52) hx hb dX5_isHelped_45 (by decide) (fun c_8 => ?_) (fun c_8 => ?_)
            · refine lv_iconst (v := 0) hx hb dX5_isHelped_52 (by decide) ?_
              refine lv_istore_n (lv' := [(2, .int 0), (3, .int v3a), (0, .ref adS), (1, .int p0)]) hx hb dX5_isHelped_53 rfl hl (by decide) rfl (fun ls hl => ?_)
              obtain ⟨x_9, ex_9⟩ : ∃ y : Int32, y = v3a + 1 := ⟨_, rfl⟩
              refine lv_iinc (v := x_9) (lv' := [(3, .int x_9), (2, .int 0), (0, .ref adS), (1, .int p0)]) hx hb dX5_isHelped_54 hl (k := 1) rfl (by rw [ex_9]; rfl) (by decide) rfl (fun ls hl => ?_)
              refine lv_goto (tgt := 4) hx hb dX5_isHelped_57 (by decide) ?_
              exact ih 0 x_9 _ _ _ (by first | assumption | exact zb_0 | exact zb_1 | omega) (by rw [ex_9]; first | exact x_up (by assumption) hm | exact x_up' (by assumption) hm | exact x_up c_1 hm | exact x_up c_2 hm | omega) (hF.trans (eX5_isHelped_4 qS nS p0 nf v2a v3a r_3 r_4 r_7 x_9 er_3 er_4 er_7 ex_9 c_1 c_2 c_5 c_8)) hP hD hS (lv_sub hl [0, 1, 2, 3] rfl)
            · refine lv_iconst (v := 1) hx hb dX5_isHelped_48 (by decide) ?_
              refine lv_goto (tgt := 53) hx hb dX5_isHelped_49 (by decide) ?_
              refine lv_istore_n (lv' := [(2, .int 1), (3, .int v3a), (0, .ref adS), (1, .int p0)]) hx hb dX5_isHelped_53 rfl hl (by decide) rfl (fun ls hl => ?_)
              obtain ⟨x_10, ex_10⟩ : ∃ y : Int32, y = v3a + 1 := ⟨_, rfl⟩
              refine lv_iinc (v := x_10) (lv' := [(3, .int x_10), (2, .int 1), (0, .ref adS), (1, .int p0)]) hx hb dX5_isHelped_54 hl (k := 1) rfl (by rw [ex_10]; rfl) (by decide) rfl (fun ls hl => ?_)
              refine lv_goto (tgt := 4) hx hb dX5_isHelped_57 (by decide) ?_
              exact ih 1 x_10 _ _ _ (by first | assumption | exact zb_0 | exact zb_1 | omega) (by rw [ex_10]; first | exact x_up (by assumption) hm | exact x_up' (by assumption) hm | exact x_up c_1 hm | exact x_up c_2 hm | omega) (hF.trans (eX5_isHelped_5 qS nS p0 nf v2a v3a r_3 r_4 r_7 x_10 er_3 er_4 er_7 ex_10 c_1 c_2 c_5 c_8)) hP hD hS (lv_sub hl [0, 1, 2, 3] rfl)
  exact loop (((p0.toInt - (0 : Int32).toInt).toNat) + 1) 0 0 _ _ _ (by first | assumption | exact zb_0 | exact zb_1 | omega | decide) (Nat.lt_succ_self _) rfl hP hD hS hl

noncomputable def F_X5_costOf (qS : Nat → Nat → Int32) (nS : Int32) (p0 : Int32) (p1 : Int32) : Int32 :=
  let r_1 : Int32 := (F_X5_secondsOf qS nS p0)
  let x_2 : Int32 := (r_1 * p1)
  let r_3 : Int32 := (F_X5_kindOf qS nS p0)
  if r_3 = 1 then
  (let x_5 : Int32 := (x_2 / 2)
  let x_6 : Int32 := (if 1 < x_5 then x_5 else 1)
  x_6)
  else
  (if r_3 = 2 then
  (let r_8 : Int32 := (F_X5_figureOf qS nS p0)
  let x_9 : Int32 := (x_2 + r_8)
  x_9)
  else
  (if r_3 = 3 then
  (let x_11 : Int32 := (x_2 / 2)
  let x_12 : Int32 := (if 1 < x_11 then x_11 else 1)
  x_12)
  else
  (if r_3 = 4 then
  (let r_14 : Int32 := (F_X5_figureOf qS nS p0)
  let x_15 : Int32 := (x_2 + r_14)
  let x_16 : Int32 := (x_15 + 3)
  x_16)
  else
  (x_2))))
set_option maxRecDepth 100000 in
theorem eX5_costOf_1 (qS : Nat → Nat → Int32) (nS : Int32) (p0 : Int32) (p1 : Int32) (r_1 : Int32) (x_2 : Int32) (r_3 : Int32) (x_5 : Int32) (x_6 : Int32) (er_1 : r_1 = (F_X5_secondsOf qS nS p0)) (ex_2 : x_2 = (r_1 * p1)) (er_3 : r_3 = (F_X5_kindOf qS nS p0)) (ex_5 : x_5 = (x_2 / 2)) (ex_6 : x_6 = (if 1 < x_5 then x_5 else 1)) (c_4 : r_3 = 1) : F_X5_costOf qS nS p0 p1 = x_6 := by subst er_1 ex_2 er_3 ex_5 ex_6; exact (if_pos c_4).trans (rfl)
set_option maxRecDepth 100000 in
theorem eX5_costOf_2 (qS : Nat → Nat → Int32) (nS : Int32) (p0 : Int32) (p1 : Int32) (r_1 : Int32) (x_2 : Int32) (r_3 : Int32) (r_8 : Int32) (x_9 : Int32) (er_1 : r_1 = (F_X5_secondsOf qS nS p0)) (ex_2 : x_2 = (r_1 * p1)) (er_3 : r_3 = (F_X5_kindOf qS nS p0)) (er_8 : r_8 = (F_X5_figureOf qS nS p0)) (ex_9 : x_9 = (x_2 + r_8)) (c_4 : ¬ (r_3 = 1)) (c_7 : r_3 = 2) : F_X5_costOf qS nS p0 p1 = x_9 := by subst er_1 ex_2 er_3 er_8 ex_9; exact (if_neg c_4).trans ((if_pos c_7).trans (rfl))
set_option maxRecDepth 100000 in
theorem eX5_costOf_3 (qS : Nat → Nat → Int32) (nS : Int32) (p0 : Int32) (p1 : Int32) (r_1 : Int32) (x_2 : Int32) (r_3 : Int32) (x_11 : Int32) (x_12 : Int32) (er_1 : r_1 = (F_X5_secondsOf qS nS p0)) (ex_2 : x_2 = (r_1 * p1)) (er_3 : r_3 = (F_X5_kindOf qS nS p0)) (ex_11 : x_11 = (x_2 / 2)) (ex_12 : x_12 = (if 1 < x_11 then x_11 else 1)) (c_4 : ¬ (r_3 = 1)) (c_7 : ¬ (r_3 = 2)) (c_10 : r_3 = 3) : F_X5_costOf qS nS p0 p1 = x_12 := by subst er_1 ex_2 er_3 ex_11 ex_12; exact (if_neg c_4).trans ((if_neg c_7).trans ((if_pos c_10).trans (rfl)))
set_option maxRecDepth 100000 in
theorem eX5_costOf_4 (qS : Nat → Nat → Int32) (nS : Int32) (p0 : Int32) (p1 : Int32) (r_1 : Int32) (x_2 : Int32) (r_3 : Int32) (r_14 : Int32) (x_15 : Int32) (x_16 : Int32) (er_1 : r_1 = (F_X5_secondsOf qS nS p0)) (ex_2 : x_2 = (r_1 * p1)) (er_3 : r_3 = (F_X5_kindOf qS nS p0)) (er_14 : r_14 = (F_X5_figureOf qS nS p0)) (ex_15 : x_15 = (x_2 + r_14)) (ex_16 : x_16 = (x_15 + 3)) (c_4 : ¬ (r_3 = 1)) (c_7 : ¬ (r_3 = 2)) (c_10 : ¬ (r_3 = 3)) (c_13 : r_3 = 4) : F_X5_costOf qS nS p0 p1 = x_16 := by subst er_1 ex_2 er_3 er_14 ex_15 ex_16; exact (if_neg c_4).trans ((if_neg c_7).trans ((if_neg c_10).trans ((if_pos c_13).trans (rfl))))
set_option maxRecDepth 100000 in
theorem eX5_costOf_5 (qS : Nat → Nat → Int32) (nS : Int32) (p0 : Int32) (p1 : Int32) (r_1 : Int32) (x_2 : Int32) (r_3 : Int32) (er_1 : r_1 = (F_X5_secondsOf qS nS p0)) (ex_2 : x_2 = (r_1 * p1)) (er_3 : r_3 = (F_X5_kindOf qS nS p0)) (c_4 : ¬ (r_3 = 1)) (c_7 : ¬ (r_3 = 2)) (c_10 : ¬ (r_3 = 3)) (c_13 : ¬ (r_3 = 4)) : F_X5_costOf qS nS p0 p1 = x_2 := by subst er_1 ex_2 er_3; exact (if_neg c_4).trans ((if_neg c_7).trans ((if_neg c_10).trans ((if_neg c_13).trans (rfl))))
set_option maxHeartbeats 4000000 in
set_option maxRecDepth 100000 in
theorem c_X5_costOf (l : Launch) (D : va_G) (cI cL : ClassId)   (adS : Nat) (rS : Nat → Nat) (qS : Nat → Nat → Int32) (nS : Int32) (p0 : Int32) (p1 : Int32)  : Xi l yX5_costOf (wm yX5_costOf cX5_costOf 4 (some .int)) (xR (2) (42)) D (tyA cI cL) [.ref adS, .int p0, .int p1] [(adS, .inr (5, [.ref (rS 0), .ref (rS 1), .ref (rS 2), .ref (rS 3), .int nS])), ((rS 0), .inl (cI, 8, .inl (qS 0))), ((rS 1), .inl (cI, 8, .inl (qS 1))), ((rS 2), .inl (cI, 8, .inl (qS 2))), ((rS 3), .inl (cI, 8, .inl (qS 3)))] [(adS, .inr (5, [.ref (rS 0), .ref (rS 1), .ref (rS 2), .ref (rS 3), .int nS])), ((rS 0), .inl (cI, 8, .inl (qS 0))), ((rS 1), .inl (cI, 8, .inl (qS 1))), ((rS 2), .inl (cI, 8, .inl (qS 2))), ((rS 3), .inl (cI, 8, .inl (qS 3)))] (F_X5_costOf qS nS p0 p1) := by
  intro sz
  refine x_in (cc := cX5_costOf) (maxL := 4) (ret := (some .int)) (by decide) rfl (Nat.le_of_ble_eq_true rfl) (fun p e s m below meth c A ls hfix hr hlocks hN hK hP hAe hD hA hS hl => ?_)
  obtain ⟨hx, hb, hml, hown, hts⟩ := hfix
  rw [← hAe]
  clear hAe
  have hown : s.vm.findClass RX5 = some m.cls := hown
  have htL : ∀ w ∈ wsL_law, w.before ([.ref adS, .int p0, .int p1] : List Value).toArray s = true := fun w h => hts w (List.mem_cons_of_mem _ h)
  have hl : lv_has ls 4 [(0, .ref adS), (1, .int p0), (2, .int p1)] := hl
  refine lv_aload_n hx hb dX5_costOf_0 rfl (lv_at hl 0 rfl) ?_
  refine lv_iload_n hx hb dX5_costOf_1 rfl (lv_at hl 1 rfl) ?_
  refine x_ci [0, 1, 2, 3, 4] (va_runV (As := [.int p0]) (rest := []) ⟨hx, hb, hml, hown, hts⟩ (c_X5_secondsOf l D cI cL adS rS qS nS p0 _) (cwV 1 hts (gv_ok (fun _ h => w_in h) wd_334 wd_425 wd_332 wd_333 wd_44) rfl rfl rfl (by decide +kernel) ⟨Nat.le_of_ble_eq_true rfl, Nat.le_of_ble_eq_true rfl⟩) (x_pv hN hK hP hD [0, 1, 2, 3, 4] rfl rfl (ci := 5) (q0 := 0) rfl rfl) rfl rfl hl.1 rfl (lv_room (Nat.le_of_ble_eq_true rfl)) dX5_costOf_2 ⟨Nat.zero_le _, Nat.zero_le _⟩) hP hD hS hA rfl (fun r_1 H locs er_1 hP hS => ?_)
  refine lv_iload_n hx hb dX5_costOf_5 rfl (lv_at hl 2 rfl) ?_
  refine lv_imul hx hb dX5_costOf_6 ?_
  refine lv_topi (fun x_2 ex_2 => ?_)
  refine lv_istore_n (lv' := [(3, .int x_2), (0, .ref adS), (1, .int p0), (2, .int p1)]) hx hb dX5_costOf_7 rfl hl (by decide) rfl (fun ls hl => ?_)
  refine lv_aload_n hx hb dX5_costOf_8 rfl (lv_at hl 1 rfl) ?_
  refine lv_iload_n hx hb dX5_costOf_9 rfl (lv_at hl 2 rfl) ?_
  refine x_ci [0, 1, 2, 3, 4] (va_runV (As := [.int p0]) (rest := []) ⟨hx, hb, hml, hown, hts⟩ (c_X5_kindOf l D cI cL adS rS qS nS p0 _) (cwV 1 hts (gv_ok (fun _ h => w_in h) wd_326 wd_340 wd_324 wd_325 wd_44) rfl rfl rfl (by decide +kernel) ⟨Nat.le_of_ble_eq_true rfl, Nat.le_of_ble_eq_true rfl⟩) (x_pv hN hK hP hD [0, 1, 2, 3, 4] rfl rfl (ci := 5) (q0 := 0) rfl rfl) rfl rfl hl.1 rfl (lv_room (Nat.le_of_ble_eq_true rfl)) dX5_costOf_10 ⟨Nat.zero_le _, Nat.zero_le _⟩) hP hD hS hA rfl (fun r_3 H locs er_3 hP hS => ?_)
  by_cases c_4 : r_3 = 1
  · refine lv_tableIn (off := 31) (tgt := 44) hx hb dX5_costOf_13 (by rw [c_4]; decide) (by rw [c_4]; decide) (by rw [c_4]; rfl) (by decide) ?_
    refine lv_iconst (v := 1) hx hb dX5_costOf_44 (by decide) ?_
    refine lv_iload_n hx hb dX5_costOf_45 rfl (lv_at hl 0 rfl) ?_
    refine lv_iconst (v := 2) hx hb dX5_costOf_46 (by decide) ?_
    refine lv_idiv hx hb dX5_costOf_47 (by decide) ?_
    refine lv_topi (fun x_5 ex_5 => ?_)
    refine va_mmax hx hb (hml.trans hl.1.symm) hown (htL _ wd_424) (htL _ wd_388) (htL _ wd_389) (htL _ wd_390) (Nat.le_of_ble_eq_true rfl) (Nat.le_of_ble_eq_true rfl) (Nat.zero_le _) (Nat.zero_le _) dX5_costOf_48 ?_
    refine lv_topi (fun x_6 ex_6 => ?_)
    have hF1 : F_X5_costOf qS nS p0 p1 = x_6 := (eX5_costOf_1 qS nS p0 p1 r_1 x_2 r_3 x_5 x_6 er_1 ex_2 er_3 ex_5 ex_6 c_4)
    exact xi_ret hx hb hr hlocks hP hS rfl (congrArg (fun o : Int32 => o) hF1).symm dX5_costOf_51
  · by_cases c_7 : r_3 = 2
    · refine lv_tableIn (off := 39) (tgt := 52) hx hb dX5_costOf_13 (by rw [c_7]; decide) (by rw [c_7]; decide) (by rw [c_7]; rfl) (by decide) ?_
      refine lv_iload_n hx hb dX5_costOf_52 rfl (lv_at hl 0 rfl) ?_
      refine lv_aload_n hx hb dX5_costOf_53 rfl (lv_at hl 1 rfl) ?_
      refine lv_iload_n hx hb dX5_costOf_54 rfl (lv_at hl 2 rfl) ?_
      refine x_ci [0, 1, 2, 3, 4] (va_runV (As := [.int p0]) (rest := [.int x_2]) ⟨hx, hb, hml, hown, hts⟩ (c_X5_figureOf l D cI cL adS rS qS nS p0 _) (cwV 1 hts (gv_ok (fun _ h => w_in h) wd_330 wd_339 wd_328 wd_329 wd_44) rfl rfl rfl (by decide +kernel) ⟨Nat.le_of_ble_eq_true rfl, Nat.le_of_ble_eq_true rfl⟩) (x_pv hN hK hP hD [0, 1, 2, 3, 4] rfl rfl (ci := 5) (q0 := 0) rfl rfl) rfl rfl hl.1 rfl (lv_room (Nat.le_of_ble_eq_true rfl)) dX5_costOf_55 ⟨Nat.zero_le _, Nat.zero_le _⟩) hP hD hS hA rfl (fun r_8 H locs er_8 hP hS => ?_)
      refine lv_iadd hx hb dX5_costOf_58 ?_
      refine lv_topi (fun x_9 ex_9 => ?_)
      have hF1 : F_X5_costOf qS nS p0 p1 = x_9 := (eX5_costOf_2 qS nS p0 p1 r_1 x_2 r_3 r_8 x_9 er_1 ex_2 er_3 er_8 ex_9 c_4 c_7)
      exact xi_ret hx hb hr hlocks hP hS rfl (congrArg (fun o : Int32 => o) hF1).symm dX5_costOf_59
    · by_cases c_10 : r_3 = 3
      · refine lv_tableIn (off := 31) (tgt := 44) hx hb dX5_costOf_13 (by rw [c_10]; decide) (by rw [c_10]; decide) (by rw [c_10]; rfl) (by decide) ?_
        refine lv_iconst (v := 1) hx hb dX5_costOf_44 (by decide) ?_
        refine lv_iload_n hx hb dX5_costOf_45 rfl (lv_at hl 0 rfl) ?_
        refine lv_iconst (v := 2) hx hb dX5_costOf_46 (by decide) ?_
        refine lv_idiv hx hb dX5_costOf_47 (by decide) ?_
        refine lv_topi (fun x_11 ex_11 => ?_)
        refine va_mmax hx hb (hml.trans hl.1.symm) hown (htL _ wd_424) (htL _ wd_388) (htL _ wd_389) (htL _ wd_390) (Nat.le_of_ble_eq_true rfl) (Nat.le_of_ble_eq_true rfl) (Nat.zero_le _) (Nat.zero_le _) dX5_costOf_48 ?_
        refine lv_topi (fun x_12 ex_12 => ?_)
        have hF1 : F_X5_costOf qS nS p0 p1 = x_12 := (eX5_costOf_3 qS nS p0 p1 r_1 x_2 r_3 x_11 x_12 er_1 ex_2 er_3 ex_11 ex_12 c_4 c_7 c_10)
        exact xi_ret hx hb hr hlocks hP hS rfl (congrArg (fun o : Int32 => o) hF1).symm dX5_costOf_51
      · by_cases c_13 : r_3 = 4
        · refine lv_tableIn (off := 47) (tgt := 60) hx hb dX5_costOf_13 (by rw [c_13]; decide) (by rw [c_13]; decide) (by rw [c_13]; rfl) (by decide) ?_
          refine lv_iload_n hx hb dX5_costOf_60 rfl (lv_at hl 0 rfl) ?_
          refine lv_aload_n hx hb dX5_costOf_61 rfl (lv_at hl 1 rfl) ?_
          refine lv_iload_n hx hb dX5_costOf_62 rfl (lv_at hl 2 rfl) ?_
          refine x_ci [0, 1, 2, 3, 4] (va_runV (As := [.int p0]) (rest := [.int x_2]) ⟨hx, hb, hml, hown, hts⟩ (c_X5_figureOf l D cI cL adS rS qS nS p0 _) (cwV 1 hts (gv_ok (fun _ h => w_in h) wd_330 wd_339 wd_328 wd_329 wd_44) rfl rfl rfl (by decide +kernel) ⟨Nat.le_of_ble_eq_true rfl, Nat.le_of_ble_eq_true rfl⟩) (x_pv hN hK hP hD [0, 1, 2, 3, 4] rfl rfl (ci := 5) (q0 := 0) rfl rfl) rfl rfl hl.1 rfl (lv_room (Nat.le_of_ble_eq_true rfl)) dX5_costOf_63 ⟨Nat.zero_le _, Nat.zero_le _⟩) hP hD hS hA rfl (fun r_14 H locs er_14 hP hS => ?_)
          refine lv_iadd hx hb dX5_costOf_66 ?_
          refine lv_topi (fun x_15 ex_15 => ?_)
          refine lv_iconst (v := 3) hx hb dX5_costOf_67 (by decide) ?_
          refine lv_iadd hx hb dX5_costOf_68 ?_
          refine lv_topi (fun x_16 ex_16 => ?_)
          have hF1 : F_X5_costOf qS nS p0 p1 = x_16 := (eX5_costOf_4 qS nS p0 p1 r_1 x_2 r_3 r_14 x_15 x_16 er_1 ex_2 er_3 er_14 ex_15 ex_16 c_4 c_7 c_10 c_13)
          exact xi_ret hx hb hr hlocks hP hS rfl (congrArg (fun o : Int32 => o) hF1).symm dX5_costOf_69
        · refine lv_tableOut (tgt := 70) hx hb dX5_costOf_13 (by have hn0 := x_nk (z := 1) c_4 rfl; have hn1 := x_nk (z := 2) c_7 rfl; have hn2 := x_nk (z := 3) c_10 rfl; have hn3 := x_nk (z := 4) c_13 rfl; omega) (by decide) ?_
          refine lv_iload_n hx hb dX5_costOf_70 rfl (lv_at hl 0 rfl) ?_
          have hF1 : F_X5_costOf qS nS p0 p1 = x_2 := (eX5_costOf_5 qS nS p0 p1 r_1 x_2 r_3 er_1 ex_2 er_3 c_4 c_7 c_10 c_13)
          exact xi_ret hx hb hr hlocks hP hS rfl (congrArg (fun o : Int32 => o) hF1).symm dX5_costOf_71

noncomputable def F_X5_worthOf (qS : Nat → Nat → Int32) (nS : Int32) (p0 : Int32) : Int32 :=
  let r_1 : Int32 := (F_X5_figureOf qS nS p0)
  let r_2 : Int32 := (F_X5_kindOf qS nS p0)
  if r_2 = 1 then
  (let x_4 : Int32 := (r_1 / 2)
  x_4)
  else
  (if r_2 = 2 then
  (r_1)
  else
  (if r_2 = 3 then
  (let x_7 : Int32 := (r_1 / 2)
  let r_8 : Int32 := (F_X5_isHelped qS nS p0)
  if r_8 = 0 then
  (let x_10 : Int32 := (x_7 + 0)
  x_10)
  else
  (let x_11 : Int32 := (x_7 + 2)
  x_11))
  else
  (if r_2 = 4 then
  (let x_13 : Int32 := (r_1 + 5)
  x_13)
  else
  (if r_2 = 5 then
  (let r_15 : Int32 := (F_X5_aheadOf qS nS p0)
  let x_16 : Int32 := (r_1 + r_15)
  x_16)
  else
  (r_1)))))
set_option maxRecDepth 100000 in
theorem eX5_worthOf_1 (qS : Nat → Nat → Int32) (nS : Int32) (p0 : Int32) (r_1 : Int32) (r_2 : Int32) (x_4 : Int32) (er_1 : r_1 = (F_X5_figureOf qS nS p0)) (er_2 : r_2 = (F_X5_kindOf qS nS p0)) (ex_4 : x_4 = (r_1 / 2)) (c_3 : r_2 = 1) : F_X5_worthOf qS nS p0 = x_4 := by subst er_1 er_2 ex_4; exact (if_pos c_3).trans (rfl)
set_option maxRecDepth 100000 in
theorem eX5_worthOf_2 (qS : Nat → Nat → Int32) (nS : Int32) (p0 : Int32) (r_1 : Int32) (r_2 : Int32) (er_1 : r_1 = (F_X5_figureOf qS nS p0)) (er_2 : r_2 = (F_X5_kindOf qS nS p0)) (c_3 : ¬ (r_2 = 1)) (c_5 : r_2 = 2) : F_X5_worthOf qS nS p0 = r_1 := by subst er_1 er_2; exact (if_neg c_3).trans ((if_pos c_5).trans (rfl))
set_option maxRecDepth 100000 in
theorem eX5_worthOf_3 (qS : Nat → Nat → Int32) (nS : Int32) (p0 : Int32) (r_1 : Int32) (r_2 : Int32) (x_7 : Int32) (r_8 : Int32) (x_10 : Int32) (er_1 : r_1 = (F_X5_figureOf qS nS p0)) (er_2 : r_2 = (F_X5_kindOf qS nS p0)) (ex_7 : x_7 = (r_1 / 2)) (er_8 : r_8 = (F_X5_isHelped qS nS p0)) (ex_10 : x_10 = (x_7 + 0)) (c_3 : ¬ (r_2 = 1)) (c_5 : ¬ (r_2 = 2)) (c_6 : r_2 = 3) (c_9 : r_8 = 0) : F_X5_worthOf qS nS p0 = x_10 := by subst er_1 er_2 ex_7 er_8 ex_10; exact (if_neg c_3).trans ((if_neg c_5).trans ((if_pos c_6).trans ((if_pos c_9).trans (rfl))))
set_option maxRecDepth 100000 in
theorem eX5_worthOf_4 (qS : Nat → Nat → Int32) (nS : Int32) (p0 : Int32) (r_1 : Int32) (r_2 : Int32) (x_7 : Int32) (r_8 : Int32) (x_11 : Int32) (er_1 : r_1 = (F_X5_figureOf qS nS p0)) (er_2 : r_2 = (F_X5_kindOf qS nS p0)) (ex_7 : x_7 = (r_1 / 2)) (er_8 : r_8 = (F_X5_isHelped qS nS p0)) (ex_11 : x_11 = (x_7 + 2)) (c_3 : ¬ (r_2 = 1)) (c_5 : ¬ (r_2 = 2)) (c_6 : r_2 = 3) (c_9 : ¬ (r_8 = 0)) : F_X5_worthOf qS nS p0 = x_11 := by subst er_1 er_2 ex_7 er_8 ex_11; exact (if_neg c_3).trans ((if_neg c_5).trans ((if_pos c_6).trans ((if_neg c_9).trans (rfl))))
set_option maxRecDepth 100000 in
theorem eX5_worthOf_5 (qS : Nat → Nat → Int32) (nS : Int32) (p0 : Int32) (r_1 : Int32) (r_2 : Int32) (x_13 : Int32) (er_1 : r_1 = (F_X5_figureOf qS nS p0)) (er_2 : r_2 = (F_X5_kindOf qS nS p0)) (ex_13 : x_13 = (r_1 + 5)) (c_3 : ¬ (r_2 = 1)) (c_5 : ¬ (r_2 = 2)) (c_6 : ¬ (r_2 = 3)) (c_12 : r_2 = 4) : F_X5_worthOf qS nS p0 = x_13 := by subst er_1 er_2 ex_13; exact (if_neg c_3).trans ((if_neg c_5).trans ((if_neg c_6).trans ((if_pos c_12).trans (rfl))))
set_option maxRecDepth 100000 in
theorem eX5_worthOf_6 (qS : Nat → Nat → Int32) (nS : Int32) (p0 : Int32) (r_1 : Int32) (r_2 : Int32) (r_15 : Int32) (x_16 : Int32) (er_1 : r_1 = (F_X5_figureOf qS nS p0)) (er_2 : r_2 = (F_X5_kindOf qS nS p0)) (er_15 : r_15 = (F_X5_aheadOf qS nS p0)) (ex_16 : x_16 = (r_1 + r_15)) (c_3 : ¬ (r_2 = 1)) (c_5 : ¬ (r_2 = 2)) (c_6 : ¬ (r_2 = 3)) (c_12 : ¬ (r_2 = 4)) (c_14 : r_2 = 5) : F_X5_worthOf qS nS p0 = x_16 := by subst er_1 er_2 er_15 ex_16; exact (if_neg c_3).trans ((if_neg c_5).trans ((if_neg c_6).trans ((if_neg c_12).trans ((if_pos c_14).trans (rfl)))))
set_option maxRecDepth 100000 in
theorem eX5_worthOf_7 (qS : Nat → Nat → Int32) (nS : Int32) (p0 : Int32) (r_1 : Int32) (r_2 : Int32) (er_1 : r_1 = (F_X5_figureOf qS nS p0)) (er_2 : r_2 = (F_X5_kindOf qS nS p0)) (c_3 : ¬ (r_2 = 1)) (c_5 : ¬ (r_2 = 2)) (c_6 : ¬ (r_2 = 3)) (c_12 : ¬ (r_2 = 4)) (c_14 : ¬ (r_2 = 5)) : F_X5_worthOf qS nS p0 = r_1 := by subst er_1 er_2; exact (if_neg c_3).trans ((if_neg c_5).trans ((if_neg c_6).trans ((if_neg c_12).trans ((if_neg c_14).trans (rfl)))))
set_option maxHeartbeats 4000000 in
set_option maxRecDepth 100000 in
theorem c_X5_worthOf (l : Launch) (D : va_G) (cI cL : ClassId)   (adS : Nat) (rS : Nat → Nat) (qS : Nat → Nat → Int32) (nS : Int32) (p0 : Int32)  : Xi l yX5_worthOf (wm yX5_worthOf cX5_worthOf 3 (some .int)) (xR (2) (44)) D (tyA cI cL) [.ref adS, .int p0] [(adS, .inr (5, [.ref (rS 0), .ref (rS 1), .ref (rS 2), .ref (rS 3), .int nS])), ((rS 0), .inl (cI, 8, .inl (qS 0))), ((rS 1), .inl (cI, 8, .inl (qS 1))), ((rS 2), .inl (cI, 8, .inl (qS 2))), ((rS 3), .inl (cI, 8, .inl (qS 3)))] [(adS, .inr (5, [.ref (rS 0), .ref (rS 1), .ref (rS 2), .ref (rS 3), .int nS])), ((rS 0), .inl (cI, 8, .inl (qS 0))), ((rS 1), .inl (cI, 8, .inl (qS 1))), ((rS 2), .inl (cI, 8, .inl (qS 2))), ((rS 3), .inl (cI, 8, .inl (qS 3)))] (F_X5_worthOf qS nS p0) := by
  intro sz
  refine x_in (cc := cX5_worthOf) (maxL := 3) (ret := (some .int)) (by decide) rfl (Nat.le_of_ble_eq_true rfl) (fun p e s m below meth c A ls hfix hr hlocks hN hK hP hAe hD hA hS hl => ?_)
  obtain ⟨hx, hb, hml, hown, hts⟩ := hfix
  rw [← hAe]
  clear hAe
  have hown : s.vm.findClass RX5 = some m.cls := hown
  have htL : ∀ w ∈ wsL_law, w.before ([.ref adS, .int p0] : List Value).toArray s = true := fun w h => hts w (List.mem_cons_of_mem _ h)
  have hl : lv_has ls 3 [(0, .ref adS), (1, .int p0)] := hl
  refine lv_aload_n hx hb dX5_worthOf_0 rfl (lv_at hl 0 rfl) ?_
  refine lv_iload_n hx hb dX5_worthOf_1 rfl (lv_at hl 1 rfl) ?_
  refine x_ci [0, 1, 2, 3, 4] (va_runV (As := [.int p0]) (rest := []) ⟨hx, hb, hml, hown, hts⟩ (c_X5_figureOf l D cI cL adS rS qS nS p0 _) (cwV 1 hts (gv_ok (fun _ h => w_in h) wd_330 wd_339 wd_328 wd_329 wd_44) rfl rfl rfl (by decide +kernel) ⟨Nat.le_of_ble_eq_true rfl, Nat.le_of_ble_eq_true rfl⟩) (x_pv hN hK hP hD [0, 1, 2, 3, 4] rfl rfl (ci := 5) (q0 := 0) rfl rfl) rfl rfl hl.1 rfl (lv_room (Nat.le_of_ble_eq_true rfl)) dX5_worthOf_2 ⟨Nat.zero_le _, Nat.zero_le _⟩) hP hD hS hA rfl (fun r_1 H locs er_1 hP hS => ?_)
  refine lv_istore_n (lv' := [(2, .int r_1), (0, .ref adS), (1, .int p0)]) hx hb dX5_worthOf_5 rfl hl (by decide) rfl (fun ls hl => ?_)
  refine lv_aload_n hx hb dX5_worthOf_6 rfl (lv_at hl 1 rfl) ?_
  refine lv_iload_n hx hb dX5_worthOf_7 rfl (lv_at hl 2 rfl) ?_
  refine x_ci [0, 1, 2, 3, 4] (va_runV (As := [.int p0]) (rest := []) ⟨hx, hb, hml, hown, hts⟩ (c_X5_kindOf l D cI cL adS rS qS nS p0 _) (cwV 1 hts (gv_ok (fun _ h => w_in h) wd_326 wd_340 wd_324 wd_325 wd_44) rfl rfl rfl (by decide +kernel) ⟨Nat.le_of_ble_eq_true rfl, Nat.le_of_ble_eq_true rfl⟩) (x_pv hN hK hP hD [0, 1, 2, 3, 4] rfl rfl (ci := 5) (q0 := 0) rfl rfl) rfl rfl hl.1 rfl (lv_room (Nat.le_of_ble_eq_true rfl)) dX5_worthOf_8 ⟨Nat.zero_le _, Nat.zero_le _⟩) hP hD hS hA rfl (fun r_2 H locs er_2 hP hS => ?_)
  by_cases c_3 : r_2 = 1
  · refine lv_tableIn (off := 33) (tgt := 44) hx hb dX5_worthOf_11 (by rw [c_3]; decide) (by rw [c_3]; decide) (by rw [c_3]; rfl) (by decide) ?_
    refine lv_iload_n hx hb dX5_worthOf_44 rfl (lv_at hl 0 rfl) ?_
    refine lv_iconst (v := 2) hx hb dX5_worthOf_45 (by decide) ?_
    refine lv_idiv hx hb dX5_worthOf_46 (by decide) ?_
    refine lv_topi (fun x_4 ex_4 => ?_)
    have hF1 : F_X5_worthOf qS nS p0 = x_4 := (eX5_worthOf_1 qS nS p0 r_1 r_2 x_4 er_1 er_2 ex_4 c_3)
    exact xi_ret hx hb hr hlocks hP hS rfl (congrArg (fun o : Int32 => o) hF1).symm dX5_worthOf_47
  · by_cases c_5 : r_2 = 2
    · refine lv_tableIn (off := 67) (tgt := 78) hx hb dX5_worthOf_11 (by rw [c_5]; decide) (by rw [c_5]; decide) (by rw [c_5]; rfl) (by decide) ?_
      refine lv_iload_n hx hb dX5_worthOf_78 rfl (lv_at hl 0 rfl) ?_
      have hF1 : F_X5_worthOf qS nS p0 = r_1 := (eX5_worthOf_2 qS nS p0 r_1 r_2 er_1 er_2 c_3 c_5)
      exact xi_ret hx hb hr hlocks hP hS rfl (congrArg (fun o : Int32 => o) hF1).symm dX5_worthOf_79
    · by_cases c_6 : r_2 = 3
      · refine lv_tableIn (off := 37) (tgt := 48) hx hb dX5_worthOf_11 (by rw [c_6]; decide) (by rw [c_6]; decide) (by rw [c_6]; rfl) (by decide) ?_
        refine lv_iload_n hx hb dX5_worthOf_48 rfl (lv_at hl 0 rfl) ?_
        refine lv_iconst (v := 2) hx hb dX5_worthOf_49 (by decide) ?_
        refine lv_idiv hx hb dX5_worthOf_50 (by decide) ?_
        refine lv_topi (fun x_7 ex_7 => ?_)
        refine lv_aload_n hx hb dX5_worthOf_51 rfl (lv_at hl 1 rfl) ?_
        refine lv_iload_n hx hb dX5_worthOf_52 rfl (lv_at hl 2 rfl) ?_
        refine x_ci [0, 1, 2, 3, 4] (va_runV (As := [.int p0]) (rest := [.int x_7]) ⟨hx, hb, hml, hown, hts⟩ (c_X5_isHelped l D cI cL adS rS qS nS p0 _) (cwV 1 hts (gv_ok (fun _ h => w_in h) wd_344 wd_341 wd_342 wd_343 wd_44) rfl rfl rfl (by decide +kernel) ⟨Nat.le_of_ble_eq_true rfl, Nat.le_of_ble_eq_true rfl⟩) (x_pv hN hK hP hD [0, 1, 2, 3, 4] rfl rfl (ci := 5) (q0 := 0) rfl rfl) rfl rfl hl.1 rfl (lv_room (Nat.le_of_ble_eq_true rfl)) dX5_worthOf_53 ⟨Nat.zero_le _, Nat.zero_le _⟩) hP hD hS hA rfl (fun r_8 H locs er_8 hP hS => ?_)
        refine lv_if_eq (tgt := 63) hx hb dX5_worthOf_56 (by decide) (fun c_9 => ?_) (fun c_9 => ?_)
        · refine lv_iconst (v := 0) hx hb dX5_worthOf_63 (by decide) ?_
          refine lv_iadd hx hb dX5_worthOf_64 ?_
          refine lv_topi (fun x_10 ex_10 => ?_)
          have hF1 : F_X5_worthOf qS nS p0 = x_10 := (eX5_worthOf_3 qS nS p0 r_1 r_2 x_7 r_8 x_10 er_1 er_2 ex_7 er_8 ex_10 c_3 c_5 c_6 c_9)
          exact xi_ret hx hb hr hlocks hP hS rfl (congrArg (fun o : Int32 => o) hF1).symm dX5_worthOf_65
        · refine lv_iconst (v := 2) hx hb dX5_worthOf_59 (by decide) ?_
          refine lv_goto (tgt := 64) hx hb dX5_worthOf_60 (by decide) ?_
          refine lv_iadd hx hb dX5_worthOf_64 ?_
          refine lv_topi (fun x_11 ex_11 => ?_)
          have hF1 : F_X5_worthOf qS nS p0 = x_11 := (eX5_worthOf_4 qS nS p0 r_1 r_2 x_7 r_8 x_11 er_1 er_2 ex_7 er_8 ex_11 c_3 c_5 c_6 c_9)
          exact xi_ret hx hb hr hlocks hP hS rfl (congrArg (fun o : Int32 => o) hF1).symm dX5_worthOf_65
      · by_cases c_12 : r_2 = 4
        · refine lv_tableIn (off := 55) (tgt := 66) hx hb dX5_worthOf_11 (by rw [c_12]; decide) (by rw [c_12]; decide) (by rw [c_12]; rfl) (by decide) ?_
          refine lv_iload_n hx hb dX5_worthOf_66 rfl (lv_at hl 0 rfl) ?_
          refine lv_iconst (v := 5) hx hb dX5_worthOf_67 (by decide) ?_
          refine lv_iadd hx hb dX5_worthOf_68 ?_
          refine lv_topi (fun x_13 ex_13 => ?_)
          have hF1 : F_X5_worthOf qS nS p0 = x_13 := (eX5_worthOf_5 qS nS p0 r_1 r_2 x_13 er_1 er_2 ex_13 c_3 c_5 c_6 c_12)
          exact xi_ret hx hb hr hlocks hP hS rfl (congrArg (fun o : Int32 => o) hF1).symm dX5_worthOf_69
        · by_cases c_14 : r_2 = 5
          · refine lv_tableIn (off := 59) (tgt := 70) hx hb dX5_worthOf_11 (by rw [c_14]; decide) (by rw [c_14]; decide) (by rw [c_14]; rfl) (by decide) ?_
            refine lv_iload_n hx hb dX5_worthOf_70 rfl (lv_at hl 0 rfl) ?_
            refine lv_aload_n hx hb dX5_worthOf_71 rfl (lv_at hl 1 rfl) ?_
            refine lv_iload_n hx hb dX5_worthOf_72 rfl (lv_at hl 2 rfl) ?_
            refine x_ci [0, 1, 2, 3, 4] (va_runV (As := [.int p0]) (rest := [.int r_1]) ⟨hx, hb, hml, hown, hts⟩ (c_X5_aheadOf l D cI cL adS rS qS nS p0 _) (cwV 1 hts (gv_ok (fun _ h => w_in h) wd_348 wd_345 wd_346 wd_347 wd_44) rfl rfl rfl (by decide +kernel) ⟨Nat.le_of_ble_eq_true rfl, Nat.le_of_ble_eq_true rfl⟩) (x_pv hN hK hP hD [0, 1, 2, 3, 4] rfl rfl (ci := 5) (q0 := 0) rfl rfl) rfl rfl hl.1 rfl (lv_room (Nat.le_of_ble_eq_true rfl)) dX5_worthOf_73 ⟨Nat.zero_le _, Nat.zero_le _⟩) hP hD hS hA rfl (fun r_15 H locs er_15 hP hS => ?_)
            refine lv_iadd hx hb dX5_worthOf_76 ?_
            refine lv_topi (fun x_16 ex_16 => ?_)
            have hF1 : F_X5_worthOf qS nS p0 = x_16 := (eX5_worthOf_6 qS nS p0 r_1 r_2 r_15 x_16 er_1 er_2 er_15 ex_16 c_3 c_5 c_6 c_12 c_14)
            exact xi_ret hx hb hr hlocks hP hS rfl (congrArg (fun o : Int32 => o) hF1).symm dX5_worthOf_77
          · refine lv_tableOut (tgt := 78) hx hb dX5_worthOf_11 (by have hn0 := x_nk (z := 1) c_3 rfl; have hn1 := x_nk (z := 2) c_5 rfl; have hn2 := x_nk (z := 3) c_6 rfl; have hn3 := x_nk (z := 4) c_12 rfl; have hn4 := x_nk (z := 5) c_14 rfl; omega) (by decide) ?_
            refine lv_iload_n hx hb dX5_worthOf_78 rfl (lv_at hl 0 rfl) ?_
            have hF1 : F_X5_worthOf qS nS p0 = r_1 := (eX5_worthOf_7 qS nS p0 r_1 r_2 er_1 er_2 c_3 c_5 c_6 c_12 c_14)
            exact xi_ret hx hb hr hlocks hP hS rfl (congrArg (fun o : Int32 => o) hF1).symm dX5_worthOf_79

noncomputable def F_X5_worthOfBits_L4 (qS : Nat → Nat → Int32) (nS : Int32) (p0 : Int32) : Nat → Int32 → Int32 → Int32
  | 0, _, _ => default
  | n + 1, v2a, v3a =>
  if nS ≤ v3a then
  (v2a)
  else
  (let x_2 : Int32 := (p0 >>> (v3a &&& 31))
  let x_3 : Int32 := (x_2 &&& 1)
  if x_3 = 0 then
  (let x_5 : Int32 := v3a + 1
  F_X5_worthOfBits_L4 qS nS p0 n v2a x_5)
  else
  (let r_6 : Int32 := (F_X5_worthOf qS nS v3a)
  let x_7 : Int32 := (v2a + r_6)
  let x_8 : Int32 := v3a + 1
  F_X5_worthOfBits_L4 qS nS p0 n x_7 x_8))
noncomputable def F_X5_worthOfBits (qS : Nat → Nat → Int32) (nS : Int32) (p0 : Int32) : Int32 :=
  F_X5_worthOfBits_L4 qS nS p0 (((nS.toInt - (0 : Int32).toInt).toNat) + 1) 0 0
set_option maxRecDepth 100000 in
theorem eX5_worthOfBits_1 (qS : Nat → Nat → Int32) (nS : Int32) (p0 : Int32) (nf : Nat) (v2a : Int32) (v3a : Int32) (c_1 : nS ≤ v3a) : F_X5_worthOfBits_L4 qS nS p0 (nf + 1) v2a v3a = v2a := by exact (if_pos c_1).trans (rfl)
set_option maxRecDepth 100000 in
theorem eX5_worthOfBits_2 (qS : Nat → Nat → Int32) (nS : Int32) (p0 : Int32) (nf : Nat) (v2a : Int32) (v3a : Int32) (x_2 : Int32) (x_3 : Int32) (x_5 : Int32) (ex_2 : x_2 = (p0 >>> (v3a &&& 31))) (ex_3 : x_3 = (x_2 &&& 1)) (ex_5 : x_5 = v3a + 1) (c_1 : ¬ (nS ≤ v3a)) (c_4 : x_3 = 0) : F_X5_worthOfBits_L4 qS nS p0 (nf + 1) v2a v3a = F_X5_worthOfBits_L4 qS nS p0 nf v2a x_5 := by subst ex_2 ex_3 ex_5; exact (if_neg c_1).trans ((if_pos c_4).trans (rfl))
set_option maxRecDepth 100000 in
theorem eX5_worthOfBits_3 (qS : Nat → Nat → Int32) (nS : Int32) (p0 : Int32) (nf : Nat) (v2a : Int32) (v3a : Int32) (x_2 : Int32) (x_3 : Int32) (r_6 : Int32) (x_7 : Int32) (x_8 : Int32) (ex_2 : x_2 = (p0 >>> (v3a &&& 31))) (ex_3 : x_3 = (x_2 &&& 1)) (er_6 : r_6 = (F_X5_worthOf qS nS v3a)) (ex_7 : x_7 = (v2a + r_6)) (ex_8 : x_8 = v3a + 1) (c_1 : ¬ (nS ≤ v3a)) (c_4 : ¬ (x_3 = 0)) : F_X5_worthOfBits_L4 qS nS p0 (nf + 1) v2a v3a = F_X5_worthOfBits_L4 qS nS p0 nf x_7 x_8 := by subst ex_2 ex_3 er_6 ex_7 ex_8; exact (if_neg c_1).trans ((if_neg c_4).trans (rfl))
set_option maxHeartbeats 4000000 in
set_option maxRecDepth 100000 in
theorem c_X5_worthOfBits (l : Launch) (D : va_G) (cI cL : ClassId)   (adS : Nat) (rS : Nat → Nat) (qS : Nat → Nat → Int32) (nS : Int32) (p0 : Int32)  : Xi l yX5_worthOfBits (wm yX5_worthOfBits cX5_worthOfBits 4 (some .int)) (xR (3) (66)) D (tyA cI cL) [.ref adS, .int p0] [(adS, .inr (5, [.ref (rS 0), .ref (rS 1), .ref (rS 2), .ref (rS 3), .int nS])), ((rS 0), .inl (cI, 8, .inl (qS 0))), ((rS 1), .inl (cI, 8, .inl (qS 1))), ((rS 2), .inl (cI, 8, .inl (qS 2))), ((rS 3), .inl (cI, 8, .inl (qS 3)))] [(adS, .inr (5, [.ref (rS 0), .ref (rS 1), .ref (rS 2), .ref (rS 3), .int nS])), ((rS 0), .inl (cI, 8, .inl (qS 0))), ((rS 1), .inl (cI, 8, .inl (qS 1))), ((rS 2), .inl (cI, 8, .inl (qS 2))), ((rS 3), .inl (cI, 8, .inl (qS 3)))] (F_X5_worthOfBits qS nS p0) := by
  intro sz
  refine x_in (cc := cX5_worthOfBits) (maxL := 4) (ret := (some .int)) (by decide) rfl (Nat.le_of_ble_eq_true rfl) (fun p e s m below meth c A ls hfix hr hlocks hN hK hP hAe hD hA hS hl => ?_)
  obtain ⟨hx, hb, hml, hown, hts⟩ := hfix
  rw [← hAe]
  clear hAe
  have hown : s.vm.findClass RX5 = some m.cls := hown
  have htL : ∀ w ∈ wsL_law, w.before ([.ref adS, .int p0] : List Value).toArray s = true := fun w h => hts w (List.mem_cons_of_mem _ h)
  have hl : lv_has ls 4 [(0, .ref adS), (1, .int p0)] := hl
  refine lv_iconst (v := 0) hx hb dX5_worthOfBits_0 (by decide) ?_
  refine lv_istore_n (lv' := [(2, .int 0), (0, .ref adS), (1, .int p0)]) hx hb dX5_worthOfBits_1 rfl hl (by decide) rfl (fun ls hl => ?_)
  refine lv_iconst (v := 0) hx hb dX5_worthOfBits_2 (by decide) ?_
  refine lv_istore_n (lv' := [(3, .int 0), (2, .int 0), (0, .ref adS), (1, .int p0)]) hx hb dX5_worthOfBits_3 rfl hl (by decide) rfl (fun ls hl => ?_)
  have loop : ∀ (nf : Nat) (v2a : Int32) (v3a : Int32) (H : Heap) (locs : List Loc) (ls : Array Slot), (nS.toInt - v3a.toInt).toNat < nf → F_X5_worthOfBits qS nS p0 = F_X5_worthOfBits_L4 qS nS p0 nf v2a v3a → va_P D vwCl [(adS, .inr (5, [.ref (rS 0), .ref (rS 1), .ref (rS 2), .ref (rS 3), .int nS])), ((rS 0), .inl (cI, 8, .inl (qS 0))), ((rS 1), .inl (cI, 8, .inl (qS 1))), ((rS 2), .inl (cI, 8, .inl (qS 2))), ((rS 3), .inl (cI, 8, .inl (qS 3)))] H → va_D A [(adS, .inr (5, [.ref (rS 0), .ref (rS 1), .ref (rS 2), .ref (rS 3), .int nS])), ((rS 0), .inl (cI, 8, .inl (qS 0))), ((rS 1), .inl (cI, 8, .inl (qS 1))), ((rS 2), .inl (cI, 8, .inl (qS 2))), ((rS 3), .inl (cI, 8, .inl (qS 3)))] → va_S A s.heap H locs → lv_has ls 4 [(3, .int v3a), (2, .int v2a), (0, .ref adS), (1, .int p0)] → W p l e (xR (3) (66)) s m ([.ref adS, .int p0] : List Value).toArray below meth c H locs 0 0 (MQ below (va_Qi (fun (r' : Int32) (_ : Unit) => r' = (F_X5_worthOfBits qS nS p0)) (xE D [(adS, .inr (5, [.ref (rS 0), .ref (rS 1), .ref (rS 2), .ref (rS 3), .int nS])), ((rS 0), .inl (cI, 8, .inl (qS 0))), ((rS 1), .inl (cI, 8, .inl (qS 1))), ((rS 2), .inl (cI, 8, .inl (qS 2))), ((rS 3), .inl (cI, 8, .inl (qS 3)))]) A) ([.ref adS, .int p0] : List Value).toArray s 0 0 A) (F0 m 4 ls []) := by
    intro nf
    induction nf with
    | zero => intro v2a v3a H locs ls hm; exact absurd hm (Nat.not_lt_zero _)
    | succ nf ih =>
      intro v2a v3a H locs ls hm hF hP hD hS hl
      refine lv_iload_n hx hb dX5_worthOfBits_4 rfl (lv_at hl 0 rfl) ?_
      refine lv_aload_n hx hb dX5_worthOfBits_5 rfl (lv_at hl 2 rfl) ?_
      refine va_get (D := D) (ci := 5) (v := .int nS) (C := RX5) (T := TX5) (N := 5) hx hb hts (fun _ h => w_in (inlX5 _ h)) hown hK hP 0 rfl rfl 4 (by decide) (htL _ wd_58) (fun _ h9 => h9) rfl dX5_worthOfBits_6 ?_
      refine lv_icmp_ge (tgt := 34) hx hb dX5_worthOfBits_9 (by decide) (fun c_1 => ?_) (fun c_1 => ?_)
      · refine lv_iload_n hx hb dX5_worthOfBits_34 rfl (lv_at hl 1 rfl) ?_
        have hF1 : F_X5_worthOfBits qS nS p0 = v2a := hF.trans (eX5_worthOfBits_1 qS nS p0 nf v2a v3a c_1)
        exact xi_ret hx hb hr hlocks hP hS rfl (congrArg (fun o : Int32 => o) hF1).symm dX5_worthOfBits_35
      · refine lv_iload_n hx hb dX5_worthOfBits_12 rfl (lv_at hl 3 rfl) ?_
        refine lv_iload_n hx hb dX5_worthOfBits_13 rfl (lv_at hl 0 rfl) ?_
        refine lv_ishr hx hb dX5_worthOfBits_14 ?_
        refine lv_topi (fun x_2 ex_2 => ?_)
        refine lv_iconst (v := 1) hx hb dX5_worthOfBits_15 (by decide) ?_
        refine lv_iand hx hb dX5_worthOfBits_16 ?_
        refine lv_topi (fun x_3 ex_3 => ?_)
        refine lv_if_eq (tgt := 28) hx hb dX5_worthOfBits_17 (by decide) (fun c_4 => ?_) (fun c_4 => ?_)
        · obtain ⟨x_5, ex_5⟩ : ∃ y : Int32, y = v3a + 1 := ⟨_, rfl⟩
          refine lv_iinc (v := x_5) (lv' := [(3, .int x_5), (2, .int v2a), (0, .ref adS), (1, .int p0)]) hx hb dX5_worthOfBits_28 hl (k := 0) rfl (by rw [ex_5]; rfl) (by decide) rfl (fun ls hl => ?_)
          refine lv_goto (tgt := 4) hx hb dX5_worthOfBits_31 (by decide) ?_
          exact ih v2a x_5 _ _ _ (by rw [ex_5]; first | exact x_up (by assumption) hm | exact x_up' (by assumption) hm | exact x_up c_1 hm | omega) (hF.trans (eX5_worthOfBits_2 qS nS p0 nf v2a v3a x_2 x_3 x_5 ex_2 ex_3 ex_5 c_1 c_4)) hP hD hS (lv_sub hl [0, 1, 2, 3] rfl)
        · refine lv_iload_n hx hb dX5_worthOfBits_20 rfl (lv_at hl 1 rfl) ?_
          refine lv_aload_n hx hb dX5_worthOfBits_21 rfl (lv_at hl 2 rfl) ?_
          refine lv_iload_n hx hb dX5_worthOfBits_22 rfl (lv_at hl 0 rfl) ?_
          refine x_ci [0, 1, 2, 3, 4] (va_runV (As := [.int v3a]) (rest := [.int v2a]) ⟨hx, hb, hml, hown, hts⟩ (c_X5_worthOf l D cI cL adS rS qS nS v3a _) (cwV 1 hts (gv_ok (fun _ h => w_in h) wd_338 wd_399 wd_336 wd_337 wd_44) rfl rfl rfl (by decide +kernel) ⟨Nat.le_of_ble_eq_true rfl, Nat.le_of_ble_eq_true rfl⟩) (x_pv hN hK hP hD [0, 1, 2, 3, 4] rfl rfl (ci := 5) (q0 := 0) rfl rfl) rfl rfl hl.1 rfl (lv_room (Nat.le_of_ble_eq_true rfl)) dX5_worthOfBits_23 ⟨Nat.zero_le _, Nat.zero_le _⟩) hP hD hS hA rfl (fun r_6 H locs er_6 hP hS => ?_)
          refine lv_iadd hx hb dX5_worthOfBits_26 ?_
          refine lv_topi (fun x_7 ex_7 => ?_)
          refine lv_istore_n (lv' := [(2, .int x_7), (3, .int v3a), (0, .ref adS), (1, .int p0)]) hx hb dX5_worthOfBits_27 rfl hl (by decide) rfl (fun ls hl => ?_)
          obtain ⟨x_8, ex_8⟩ : ∃ y : Int32, y = v3a + 1 := ⟨_, rfl⟩
          refine lv_iinc (v := x_8) (lv' := [(3, .int x_8), (2, .int x_7), (0, .ref adS), (1, .int p0)]) hx hb dX5_worthOfBits_28 hl (k := 1) rfl (by rw [ex_8]; rfl) (by decide) rfl (fun ls hl => ?_)
          refine lv_goto (tgt := 4) hx hb dX5_worthOfBits_31 (by decide) ?_
          exact ih x_7 x_8 _ _ _ (by rw [ex_8]; first | exact x_up (by assumption) hm | exact x_up' (by assumption) hm | exact x_up c_1 hm | omega) (hF.trans (eX5_worthOfBits_3 qS nS p0 nf v2a v3a x_2 x_3 r_6 x_7 x_8 ex_2 ex_3 er_6 ex_7 ex_8 c_1 c_4)) hP hD hS (lv_sub hl [0, 1, 2, 3] rfl)
  exact loop (((nS.toInt - (0 : Int32).toInt).toNat) + 1) 0 0 _ _ _ (Nat.lt_succ_self _) rfl hP hD hS hl

noncomputable def F_X5_linesOfColumns_L4 (qS : Nat → Nat → Int32) (nS : Int32) (p0 : Int32) : Nat → Int32 → Int32 → Int32
  | 0, _, _ => default
  | n + 1, v2a, v3a =>
  if nS ≤ v3a then
  (v2a)
  else
  (let r_2 : Int32 := (F_X5_columnOf qS nS v3a)
  let x_3 : Int32 := (p0 >>> (r_2 &&& 31))
  let x_4 : Int32 := (x_3 &&& 1)
  if x_4 = 0 then
  (let x_6 : Int32 := v3a + 1
  F_X5_linesOfColumns_L4 qS nS p0 n v2a x_6)
  else
  (let x_7 : Int32 := (1 <<< (v3a &&& 31))
  let x_8 : Int32 := (v2a ||| x_7)
  let x_9 : Int32 := v3a + 1
  F_X5_linesOfColumns_L4 qS nS p0 n x_8 x_9))
noncomputable def F_X5_linesOfColumns (qS : Nat → Nat → Int32) (nS : Int32) (p0 : Int32) : Int32 :=
  F_X5_linesOfColumns_L4 qS nS p0 (((nS.toInt - (0 : Int32).toInt).toNat) + 1) 0 0
set_option maxRecDepth 100000 in
theorem eX5_linesOfColumns_1 (qS : Nat → Nat → Int32) (nS : Int32) (p0 : Int32) (nf : Nat) (v2a : Int32) (v3a : Int32) (c_1 : nS ≤ v3a) : F_X5_linesOfColumns_L4 qS nS p0 (nf + 1) v2a v3a = v2a := by exact (if_pos c_1).trans (rfl)
set_option maxRecDepth 100000 in
theorem eX5_linesOfColumns_2 (qS : Nat → Nat → Int32) (nS : Int32) (p0 : Int32) (nf : Nat) (v2a : Int32) (v3a : Int32) (r_2 : Int32) (x_3 : Int32) (x_4 : Int32) (x_6 : Int32) (er_2 : r_2 = (F_X5_columnOf qS nS v3a)) (ex_3 : x_3 = (p0 >>> (r_2 &&& 31))) (ex_4 : x_4 = (x_3 &&& 1)) (ex_6 : x_6 = v3a + 1) (c_1 : ¬ (nS ≤ v3a)) (c_5 : x_4 = 0) : F_X5_linesOfColumns_L4 qS nS p0 (nf + 1) v2a v3a = F_X5_linesOfColumns_L4 qS nS p0 nf v2a x_6 := by subst er_2 ex_3 ex_4 ex_6; exact (if_neg c_1).trans ((if_pos c_5).trans (rfl))
set_option maxRecDepth 100000 in
theorem eX5_linesOfColumns_3 (qS : Nat → Nat → Int32) (nS : Int32) (p0 : Int32) (nf : Nat) (v2a : Int32) (v3a : Int32) (r_2 : Int32) (x_3 : Int32) (x_4 : Int32) (x_7 : Int32) (x_8 : Int32) (x_9 : Int32) (er_2 : r_2 = (F_X5_columnOf qS nS v3a)) (ex_3 : x_3 = (p0 >>> (r_2 &&& 31))) (ex_4 : x_4 = (x_3 &&& 1)) (ex_7 : x_7 = (1 <<< (v3a &&& 31))) (ex_8 : x_8 = (v2a ||| x_7)) (ex_9 : x_9 = v3a + 1) (c_1 : ¬ (nS ≤ v3a)) (c_5 : ¬ (x_4 = 0)) : F_X5_linesOfColumns_L4 qS nS p0 (nf + 1) v2a v3a = F_X5_linesOfColumns_L4 qS nS p0 nf x_8 x_9 := by subst er_2 ex_3 ex_4 ex_7 ex_8 ex_9; exact (if_neg c_1).trans ((if_neg c_5).trans (rfl))
set_option maxHeartbeats 4000000 in
set_option maxRecDepth 100000 in
theorem c_X5_linesOfColumns (l : Launch) (D : va_G) (cI cL : ClassId)   (adS : Nat) (rS : Nat → Nat) (qS : Nat → Nat → Int32) (nS : Int32) (p0 : Int32)  : Xi l yX5_linesOfColumns (wm yX5_linesOfColumns cX5_linesOfColumns 4 (some .int)) (xR (2) (42)) D (tyA cI cL) [.ref adS, .int p0] [(adS, .inr (5, [.ref (rS 0), .ref (rS 1), .ref (rS 2), .ref (rS 3), .int nS])), ((rS 0), .inl (cI, 8, .inl (qS 0))), ((rS 1), .inl (cI, 8, .inl (qS 1))), ((rS 2), .inl (cI, 8, .inl (qS 2))), ((rS 3), .inl (cI, 8, .inl (qS 3)))] [(adS, .inr (5, [.ref (rS 0), .ref (rS 1), .ref (rS 2), .ref (rS 3), .int nS])), ((rS 0), .inl (cI, 8, .inl (qS 0))), ((rS 1), .inl (cI, 8, .inl (qS 1))), ((rS 2), .inl (cI, 8, .inl (qS 2))), ((rS 3), .inl (cI, 8, .inl (qS 3)))] (F_X5_linesOfColumns qS nS p0) := by
  intro sz
  refine x_in (cc := cX5_linesOfColumns) (maxL := 4) (ret := (some .int)) (by decide) rfl (Nat.le_of_ble_eq_true rfl) (fun p e s m below meth c A ls hfix hr hlocks hN hK hP hAe hD hA hS hl => ?_)
  obtain ⟨hx, hb, hml, hown, hts⟩ := hfix
  rw [← hAe]
  clear hAe
  have hown : s.vm.findClass RX5 = some m.cls := hown
  have htL : ∀ w ∈ wsL_law, w.before ([.ref adS, .int p0] : List Value).toArray s = true := fun w h => hts w (List.mem_cons_of_mem _ h)
  have hl : lv_has ls 4 [(0, .ref adS), (1, .int p0)] := hl
  refine lv_iconst (v := 0) hx hb dX5_linesOfColumns_0 (by decide) ?_
  refine lv_istore_n (lv' := [(2, .int 0), (0, .ref adS), (1, .int p0)]) hx hb dX5_linesOfColumns_1 rfl hl (by decide) rfl (fun ls hl => ?_)
  refine lv_iconst (v := 0) hx hb dX5_linesOfColumns_2 (by decide) ?_
  refine lv_istore_n (lv' := [(3, .int 0), (2, .int 0), (0, .ref adS), (1, .int p0)]) hx hb dX5_linesOfColumns_3 rfl hl (by decide) rfl (fun ls hl => ?_)
  have loop : ∀ (nf : Nat) (v2a : Int32) (v3a : Int32) (H : Heap) (locs : List Loc) (ls : Array Slot), (nS.toInt - v3a.toInt).toNat < nf → F_X5_linesOfColumns qS nS p0 = F_X5_linesOfColumns_L4 qS nS p0 nf v2a v3a → va_P D vwCl [(adS, .inr (5, [.ref (rS 0), .ref (rS 1), .ref (rS 2), .ref (rS 3), .int nS])), ((rS 0), .inl (cI, 8, .inl (qS 0))), ((rS 1), .inl (cI, 8, .inl (qS 1))), ((rS 2), .inl (cI, 8, .inl (qS 2))), ((rS 3), .inl (cI, 8, .inl (qS 3)))] H → va_D A [(adS, .inr (5, [.ref (rS 0), .ref (rS 1), .ref (rS 2), .ref (rS 3), .int nS])), ((rS 0), .inl (cI, 8, .inl (qS 0))), ((rS 1), .inl (cI, 8, .inl (qS 1))), ((rS 2), .inl (cI, 8, .inl (qS 2))), ((rS 3), .inl (cI, 8, .inl (qS 3)))] → va_S A s.heap H locs → lv_has ls 4 [(3, .int v3a), (2, .int v2a), (0, .ref adS), (1, .int p0)] → W p l e (xR (2) (42)) s m ([.ref adS, .int p0] : List Value).toArray below meth c H locs 0 0 (MQ below (va_Qi (fun (r' : Int32) (_ : Unit) => r' = (F_X5_linesOfColumns qS nS p0)) (xE D [(adS, .inr (5, [.ref (rS 0), .ref (rS 1), .ref (rS 2), .ref (rS 3), .int nS])), ((rS 0), .inl (cI, 8, .inl (qS 0))), ((rS 1), .inl (cI, 8, .inl (qS 1))), ((rS 2), .inl (cI, 8, .inl (qS 2))), ((rS 3), .inl (cI, 8, .inl (qS 3)))]) A) ([.ref adS, .int p0] : List Value).toArray s 0 0 A) (F0 m 4 ls []) := by
    intro nf
    induction nf with
    | zero => intro v2a v3a H locs ls hm; exact absurd hm (Nat.not_lt_zero _)
    | succ nf ih =>
      intro v2a v3a H locs ls hm hF hP hD hS hl
      refine lv_iload_n hx hb dX5_linesOfColumns_4 rfl (lv_at hl 0 rfl) ?_
      refine lv_aload_n hx hb dX5_linesOfColumns_5 rfl (lv_at hl 2 rfl) ?_
      refine va_get (D := D) (ci := 5) (v := .int nS) (C := RX5) (T := TX5) (N := 5) hx hb hts (fun _ h => w_in (inlX5 _ h)) hown hK hP 0 rfl rfl 4 (by decide) (htL _ wd_58) (fun _ h9 => h9) rfl dX5_linesOfColumns_6 ?_
      refine lv_icmp_ge (tgt := 36) hx hb dX5_linesOfColumns_9 (by decide) (fun c_1 => ?_) (fun c_1 => ?_)
      · refine lv_iload_n hx hb dX5_linesOfColumns_36 rfl (lv_at hl 1 rfl) ?_
        have hF1 : F_X5_linesOfColumns qS nS p0 = v2a := hF.trans (eX5_linesOfColumns_1 qS nS p0 nf v2a v3a c_1)
        exact xi_ret hx hb hr hlocks hP hS rfl (congrArg (fun o : Int32 => o) hF1).symm dX5_linesOfColumns_37
      · refine lv_iload_n hx hb dX5_linesOfColumns_12 rfl (lv_at hl 3 rfl) ?_
        refine lv_aload_n hx hb dX5_linesOfColumns_13 rfl (lv_at hl 2 rfl) ?_
        refine lv_iload_n hx hb dX5_linesOfColumns_14 rfl (lv_at hl 0 rfl) ?_
        refine x_ci [0, 1, 2, 3, 4] (va_runV (As := [.int v3a]) (rest := [.int p0]) ⟨hx, hb, hml, hown, hts⟩ (c_X5_columnOf l D cI cL adS rS qS nS v3a _) (cwV 1 hts (gv_ok (fun _ h => w_in h) wd_322 wd_497 wd_320 wd_321 wd_44) rfl rfl rfl (by decide +kernel) ⟨Nat.le_of_ble_eq_true rfl, Nat.le_of_ble_eq_true rfl⟩) (x_pv hN hK hP hD [0, 1, 2, 3, 4] rfl rfl (ci := 5) (q0 := 0) rfl rfl) rfl rfl hl.1 rfl (lv_room (Nat.le_of_ble_eq_true rfl)) dX5_linesOfColumns_15 ⟨Nat.zero_le _, Nat.zero_le _⟩) hP hD hS hA rfl (fun r_2 H locs er_2 hP hS => ?_)
        refine lv_ishr hx hb dX5_linesOfColumns_18 ?_
        refine lv_topi (fun x_3 ex_3 => ?_)
        refine lv_iconst (v := 1) hx hb dX5_linesOfColumns_19 (by decide) ?_
        refine lv_iand hx hb dX5_linesOfColumns_20 ?_
        refine lv_topi (fun x_4 ex_4 => ?_)
        refine lv_if_eq (tgt := 30) hx hb dX5_linesOfColumns_21 (by decide) (fun c_5 => ?_) (fun c_5 => ?_)
        · obtain ⟨x_6, ex_6⟩ : ∃ y : Int32, y = v3a + 1 := ⟨_, rfl⟩
          refine lv_iinc (v := x_6) (lv' := [(3, .int x_6), (2, .int v2a), (0, .ref adS), (1, .int p0)]) hx hb dX5_linesOfColumns_30 hl (k := 0) rfl (by rw [ex_6]; rfl) (by decide) rfl (fun ls hl => ?_)
          refine lv_goto (tgt := 4) hx hb dX5_linesOfColumns_33 (by decide) ?_
          exact ih v2a x_6 _ _ _ (by rw [ex_6]; first | exact x_up (by assumption) hm | exact x_up' (by assumption) hm | exact x_up c_1 hm | omega) (hF.trans (eX5_linesOfColumns_2 qS nS p0 nf v2a v3a r_2 x_3 x_4 x_6 er_2 ex_3 ex_4 ex_6 c_1 c_5)) hP hD hS (lv_sub hl [0, 1, 2, 3] rfl)
        · refine lv_iload_n hx hb dX5_linesOfColumns_24 rfl (lv_at hl 1 rfl) ?_
          refine lv_iconst (v := 1) hx hb dX5_linesOfColumns_25 (by decide) ?_
          refine lv_iload_n hx hb dX5_linesOfColumns_26 rfl (lv_at hl 0 rfl) ?_
          refine lv_ishl hx hb dX5_linesOfColumns_27 ?_
          refine lv_topi (fun x_7 ex_7 => ?_)
          refine lv_ior hx hb dX5_linesOfColumns_28 ?_
          refine lv_topi (fun x_8 ex_8 => ?_)
          refine lv_istore_n (lv' := [(2, .int x_8), (3, .int v3a), (0, .ref adS), (1, .int p0)]) hx hb dX5_linesOfColumns_29 rfl hl (by decide) rfl (fun ls hl => ?_)
          obtain ⟨x_9, ex_9⟩ : ∃ y : Int32, y = v3a + 1 := ⟨_, rfl⟩
          refine lv_iinc (v := x_9) (lv' := [(3, .int x_9), (2, .int x_8), (0, .ref adS), (1, .int p0)]) hx hb dX5_linesOfColumns_30 hl (k := 1) rfl (by rw [ex_9]; rfl) (by decide) rfl (fun ls hl => ?_)
          refine lv_goto (tgt := 4) hx hb dX5_linesOfColumns_33 (by decide) ?_
          exact ih x_8 x_9 _ _ _ (by rw [ex_9]; first | exact x_up (by assumption) hm | exact x_up' (by assumption) hm | exact x_up c_1 hm | omega) (hF.trans (eX5_linesOfColumns_3 qS nS p0 nf v2a v3a r_2 x_3 x_4 x_7 x_8 x_9 er_2 ex_3 ex_4 ex_7 ex_8 ex_9 c_1 c_5)) hP hD hS (lv_sub hl [0, 1, 2, 3] rfl)
  exact loop (((nS.toInt - (0 : Int32).toInt).toNat) + 1) 0 0 _ _ _ (Nat.lt_succ_self _) rfl hP hD hS hl

noncomputable def F_X5_nextLine_L2 (qS : Nat → Nat → Int32) (nS : Int32) (p0 : Int32) (p1 : Int32) : Nat → Int32 → Int32
  | 0, _ => default
  | n + 1, v3a =>
  if nS ≤ v3a then
  ((-9))
  else
  (let r_2 : Int32 := (F_X5_columnOf qS nS v3a)
  if r_2 = p0 then
  (let x_5 : Int32 := (p1 >>> (v3a &&& 31))
  let x_6 : Int32 := (x_5 &&& 1)
  if x_6 = 0 then
  (v3a)
  else
  (let x_8 : Int32 := v3a + 1
  F_X5_nextLine_L2 qS nS p0 p1 n x_8))
  else
  (let x_4 : Int32 := v3a + 1
  F_X5_nextLine_L2 qS nS p0 p1 n x_4))
noncomputable def F_X5_nextLine (qS : Nat → Nat → Int32) (nS : Int32) (p0 : Int32) (p1 : Int32) : Int32 :=
  F_X5_nextLine_L2 qS nS p0 p1 (((nS.toInt - (0 : Int32).toInt).toNat) + 1) 0
set_option maxRecDepth 100000 in
theorem eX5_nextLine_1 (qS : Nat → Nat → Int32) (nS : Int32) (p0 : Int32) (p1 : Int32) (nf : Nat) (v3a : Int32) (c_1 : nS ≤ v3a) : F_X5_nextLine_L2 qS nS p0 p1 (nf + 1) v3a = (-9) := by exact (if_pos c_1).trans (rfl)
set_option maxRecDepth 100000 in
theorem eX5_nextLine_2 (qS : Nat → Nat → Int32) (nS : Int32) (p0 : Int32) (p1 : Int32) (nf : Nat) (v3a : Int32) (r_2 : Int32) (x_4 : Int32) (er_2 : r_2 = (F_X5_columnOf qS nS v3a)) (ex_4 : x_4 = v3a + 1) (c_1 : ¬ (nS ≤ v3a)) (c_3 : ¬ (r_2 = p0)) : F_X5_nextLine_L2 qS nS p0 p1 (nf + 1) v3a = F_X5_nextLine_L2 qS nS p0 p1 nf x_4 := by subst er_2 ex_4; exact (if_neg c_1).trans ((if_neg c_3).trans (rfl))
set_option maxRecDepth 100000 in
theorem eX5_nextLine_3 (qS : Nat → Nat → Int32) (nS : Int32) (p0 : Int32) (p1 : Int32) (nf : Nat) (v3a : Int32) (r_2 : Int32) (x_5 : Int32) (x_6 : Int32) (x_8 : Int32) (er_2 : r_2 = (F_X5_columnOf qS nS v3a)) (ex_5 : x_5 = (p1 >>> (v3a &&& 31))) (ex_6 : x_6 = (x_5 &&& 1)) (ex_8 : x_8 = v3a + 1) (c_1 : ¬ (nS ≤ v3a)) (c_3 : r_2 = p0) (c_7 : ¬ (x_6 = 0)) : F_X5_nextLine_L2 qS nS p0 p1 (nf + 1) v3a = F_X5_nextLine_L2 qS nS p0 p1 nf x_8 := by subst er_2 ex_5 ex_6 ex_8; exact (if_neg c_1).trans ((if_pos c_3).trans ((if_neg c_7).trans (rfl)))
set_option maxRecDepth 100000 in
theorem eX5_nextLine_4 (qS : Nat → Nat → Int32) (nS : Int32) (p0 : Int32) (p1 : Int32) (nf : Nat) (v3a : Int32) (r_2 : Int32) (x_5 : Int32) (x_6 : Int32) (er_2 : r_2 = (F_X5_columnOf qS nS v3a)) (ex_5 : x_5 = (p1 >>> (v3a &&& 31))) (ex_6 : x_6 = (x_5 &&& 1)) (c_1 : ¬ (nS ≤ v3a)) (c_3 : r_2 = p0) (c_7 : x_6 = 0) : F_X5_nextLine_L2 qS nS p0 p1 (nf + 1) v3a = v3a := by subst er_2 ex_5 ex_6; exact (if_neg c_1).trans ((if_pos c_3).trans ((if_pos c_7).trans (rfl)))
set_option maxHeartbeats 4000000 in
set_option maxRecDepth 100000 in
theorem c_X5_nextLine (l : Launch) (D : va_G) (cI cL : ClassId)   (adS : Nat) (rS : Nat → Nat) (qS : Nat → Nat → Int32) (nS : Int32) (p0 : Int32) (p1 : Int32)  : Xi l yX5_nextLine (wm yX5_nextLine cX5_nextLine 4 (some .int)) (xR (2) (42)) D (tyA cI cL) [.ref adS, .int p0, .int p1] [(adS, .inr (5, [.ref (rS 0), .ref (rS 1), .ref (rS 2), .ref (rS 3), .int nS])), ((rS 0), .inl (cI, 8, .inl (qS 0))), ((rS 1), .inl (cI, 8, .inl (qS 1))), ((rS 2), .inl (cI, 8, .inl (qS 2))), ((rS 3), .inl (cI, 8, .inl (qS 3)))] [(adS, .inr (5, [.ref (rS 0), .ref (rS 1), .ref (rS 2), .ref (rS 3), .int nS])), ((rS 0), .inl (cI, 8, .inl (qS 0))), ((rS 1), .inl (cI, 8, .inl (qS 1))), ((rS 2), .inl (cI, 8, .inl (qS 2))), ((rS 3), .inl (cI, 8, .inl (qS 3)))] (F_X5_nextLine qS nS p0 p1) := by
  intro sz
  refine x_in (cc := cX5_nextLine) (maxL := 4) (ret := (some .int)) (by decide) rfl (Nat.le_of_ble_eq_true rfl) (fun p e s m below meth c A ls hfix hr hlocks hN hK hP hAe hD hA hS hl => ?_)
  obtain ⟨hx, hb, hml, hown, hts⟩ := hfix
  rw [← hAe]
  clear hAe
  have hown : s.vm.findClass RX5 = some m.cls := hown
  have htL : ∀ w ∈ wsL_law, w.before ([.ref adS, .int p0, .int p1] : List Value).toArray s = true := fun w h => hts w (List.mem_cons_of_mem _ h)
  have hl : lv_has ls 4 [(0, .ref adS), (1, .int p0), (2, .int p1)] := hl
  refine lv_iconst (v := 0) hx hb dX5_nextLine_0 (by decide) ?_
  refine lv_istore_n (lv' := [(3, .int 0), (0, .ref adS), (1, .int p0), (2, .int p1)]) hx hb dX5_nextLine_1 rfl hl (by decide) rfl (fun ls hl => ?_)
  have loop : ∀ (nf : Nat) (v3a : Int32) (H : Heap) (locs : List Loc) (ls : Array Slot), (nS.toInt - v3a.toInt).toNat < nf → F_X5_nextLine qS nS p0 p1 = F_X5_nextLine_L2 qS nS p0 p1 nf v3a → va_P D vwCl [(adS, .inr (5, [.ref (rS 0), .ref (rS 1), .ref (rS 2), .ref (rS 3), .int nS])), ((rS 0), .inl (cI, 8, .inl (qS 0))), ((rS 1), .inl (cI, 8, .inl (qS 1))), ((rS 2), .inl (cI, 8, .inl (qS 2))), ((rS 3), .inl (cI, 8, .inl (qS 3)))] H → va_D A [(adS, .inr (5, [.ref (rS 0), .ref (rS 1), .ref (rS 2), .ref (rS 3), .int nS])), ((rS 0), .inl (cI, 8, .inl (qS 0))), ((rS 1), .inl (cI, 8, .inl (qS 1))), ((rS 2), .inl (cI, 8, .inl (qS 2))), ((rS 3), .inl (cI, 8, .inl (qS 3)))] → va_S A s.heap H locs → lv_has ls 4 [(3, .int v3a), (0, .ref adS), (1, .int p0), (2, .int p1)] → W p l e (xR (2) (42)) s m ([.ref adS, .int p0, .int p1] : List Value).toArray below meth c H locs 0 0 (MQ below (va_Qi (fun (r' : Int32) (_ : Unit) => r' = (F_X5_nextLine qS nS p0 p1)) (xE D [(adS, .inr (5, [.ref (rS 0), .ref (rS 1), .ref (rS 2), .ref (rS 3), .int nS])), ((rS 0), .inl (cI, 8, .inl (qS 0))), ((rS 1), .inl (cI, 8, .inl (qS 1))), ((rS 2), .inl (cI, 8, .inl (qS 2))), ((rS 3), .inl (cI, 8, .inl (qS 3)))]) A) ([.ref adS, .int p0, .int p1] : List Value).toArray s 0 0 A) (F0 m 2 ls []) := by
    intro nf
    induction nf with
    | zero => intro v3a H locs ls hm; exact absurd hm (Nat.not_lt_zero _)
    | succ nf ih =>
      intro v3a H locs ls hm hF hP hD hS hl
      refine lv_iload_n hx hb dX5_nextLine_2 rfl (lv_at hl 0 rfl) ?_
      refine lv_aload_n hx hb dX5_nextLine_3 rfl (lv_at hl 1 rfl) ?_
      refine va_get (D := D) (ci := 5) (v := .int nS) (C := RX5) (T := TX5) (N := 5) hx hb hts (fun _ h => w_in (inlX5 _ h)) hown hK hP 0 rfl rfl 4 (by decide) (htL _ wd_58) (fun _ h9 => h9) rfl dX5_nextLine_4 ?_
      refine lv_icmp_ge (tgt := 35) hx hb dX5_nextLine_7 (by decide) (fun c_1 => ?_) (fun c_1 => ?_)
      · refine lv_bipush (v := (-9)) hx hb dX5_nextLine_35 (by decide) ?_
        have hF1 : F_X5_nextLine qS nS p0 p1 = (-9) := hF.trans (eX5_nextLine_1 qS nS p0 p1 nf v3a c_1)
        exact xi_ret hx hb hr hlocks hP hS rfl (congrArg (fun o : Int32 => o) hF1).symm dX5_nextLine_37
      · refine lv_aload_n hx hb dX5_nextLine_10 rfl (lv_at hl 1 rfl) ?_
        refine lv_iload_n hx hb dX5_nextLine_11 rfl (lv_at hl 0 rfl) ?_
        refine x_ci [0, 1, 2, 3, 4] (va_runV (As := [.int v3a]) (rest := []) ⟨hx, hb, hml, hown, hts⟩ (c_X5_columnOf l D cI cL adS rS qS nS v3a _) (cwV 1 hts (gv_ok (fun _ h => w_in h) wd_322 wd_497 wd_320 wd_321 wd_44) rfl rfl rfl (by decide +kernel) ⟨Nat.le_of_ble_eq_true rfl, Nat.le_of_ble_eq_true rfl⟩) (x_pv hN hK hP hD [0, 1, 2, 3, 4] rfl rfl (ci := 5) (q0 := 0) rfl rfl) rfl rfl hl.1 rfl (lv_room (Nat.le_of_ble_eq_true rfl)) dX5_nextLine_12 ⟨Nat.zero_le _, Nat.zero_le _⟩) hP hD hS hA rfl (fun r_2 H locs er_2 hP hS => ?_)
        refine lv_iload_n hx hb dX5_nextLine_15 rfl (lv_at hl 2 rfl) ?_
        refine lv_icmp_ne (tgt := 29) hx hb dX5_nextLine_16 (by decide) (fun c_3 => ?_) (fun c_3 => ?_)
        · obtain ⟨x_4, ex_4⟩ : ∃ y : Int32, y = v3a + 1 := ⟨_, rfl⟩
          refine lv_iinc (v := x_4) (lv' := [(3, .int x_4), (0, .ref adS), (1, .int p0), (2, .int p1)]) hx hb dX5_nextLine_29 hl (k := 0) rfl (by rw [ex_4]; rfl) (by decide) rfl (fun ls hl => ?_)
          refine lv_goto (tgt := 2) hx hb dX5_nextLine_32 (by decide) ?_
          exact ih x_4 _ _ _ (by rw [ex_4]; first | exact x_up (by assumption) hm | exact x_up' (by assumption) hm | exact x_up c_1 hm | omega) (hF.trans (eX5_nextLine_2 qS nS p0 p1 nf v3a r_2 x_4 er_2 ex_4 c_1 c_3)) hP hD hS (lv_sub hl [0, 1, 2, 3] rfl)
        · refine lv_iload_n hx hb dX5_nextLine_19 rfl (lv_at hl 3 rfl) ?_
          refine lv_iload_n hx hb dX5_nextLine_20 rfl (lv_at hl 0 rfl) ?_
          refine lv_ishr hx hb dX5_nextLine_21 ?_
          refine lv_topi (fun x_5 ex_5 => ?_)
          refine lv_iconst (v := 1) hx hb dX5_nextLine_22 (by decide) ?_
          refine lv_iand hx hb dX5_nextLine_23 ?_
          refine lv_topi (fun x_6 ex_6 => ?_)
          refine lv_if_ne (tgt := 29) hx hb dX5_nextLine_24 (by decide) (fun c_7 => ?_) (fun c_7 => ?_)
          · obtain ⟨x_8, ex_8⟩ : ∃ y : Int32, y = v3a + 1 := ⟨_, rfl⟩
            refine lv_iinc (v := x_8) (lv' := [(3, .int x_8), (0, .ref adS), (1, .int p0), (2, .int p1)]) hx hb dX5_nextLine_29 hl (k := 0) rfl (by rw [ex_8]; rfl) (by decide) rfl (fun ls hl => ?_)
            refine lv_goto (tgt := 2) hx hb dX5_nextLine_32 (by decide) ?_
            exact ih x_8 _ _ _ (by rw [ex_8]; first | exact x_up (by assumption) hm | exact x_up' (by assumption) hm | exact x_up c_1 hm | omega) (hF.trans (eX5_nextLine_3 qS nS p0 p1 nf v3a r_2 x_5 x_6 x_8 er_2 ex_5 ex_6 ex_8 c_1 c_3 c_7)) hP hD hS (lv_sub hl [0, 1, 2, 3] rfl)
          · refine lv_iload_n hx hb dX5_nextLine_27 rfl (lv_at hl 0 rfl) ?_
            have hF1 : F_X5_nextLine qS nS p0 p1 = v3a := hF.trans (eX5_nextLine_4 qS nS p0 p1 nf v3a r_2 x_5 x_6 er_2 ex_5 ex_6 c_1 c_3 c_7)
            exact xi_ret hx hb hr hlocks hP hS rfl (congrArg (fun o : Int32 => o) hF1).symm dX5_nextLine_28
  exact loop (((nS.toInt - (0 : Int32).toInt).toNat) + 1) 0 _ _ _ (Nat.lt_succ_self _) rfl hP hD hS hl

noncomputable def F_X5_add (qS : Nat → Nat → Int32) (nS : Int32) (p0 : Int32) (p1 : Int32) (p2 : Int32) (p3 : Int32) : (Nat → Nat → Int32) × Int32 :=
  if 8 ≤ nS then
  ((qS, nS))
  else
  (let o_2 : Nat → Int32 := (F_X6_put (qS 0) 8 nS p0)
  let o_3 : Nat → Int32 := (F_X6_put (qS 1) 8 nS p1)
  let o_4 : Nat → Int32 := (F_X6_put (qS 2) 8 nS p2)
  let o_5 : Nat → Int32 := (F_X6_put (qS 3) 8 nS p3)
  let x_6 : Int32 := (nS + 1)
  ((va_up (va_up (va_up (va_up qS 0 o_2) 1 o_3) 2 o_4) 3 o_5), x_6))
set_option maxRecDepth 100000 in
theorem eX5_add_1 (qS : Nat → Nat → Int32) (nS : Int32) (p0 : Int32) (p1 : Int32) (p2 : Int32) (p3 : Int32) (c_1 : 8 ≤ nS) : F_X5_add qS nS p0 p1 p2 p3 = (qS, nS) := by exact (if_pos c_1).trans (rfl)
set_option maxRecDepth 100000 in
theorem eX5_add_2 (qS : Nat → Nat → Int32) (nS : Int32) (p0 : Int32) (p1 : Int32) (p2 : Int32) (p3 : Int32) (o_2 : Nat → Int32) (o_3 : Nat → Int32) (o_4 : Nat → Int32) (o_5 : Nat → Int32) (x_6 : Int32) (eo_2 : o_2 = (F_X6_put (qS 0) 8 nS p0)) (eo_3 : o_3 = (F_X6_put (qS 1) 8 nS p1)) (eo_4 : o_4 = (F_X6_put (qS 2) 8 nS p2)) (eo_5 : o_5 = (F_X6_put (qS 3) 8 nS p3)) (ex_6 : x_6 = (nS + 1)) (c_1 : ¬ (8 ≤ nS)) : F_X5_add qS nS p0 p1 p2 p3 = ((va_up (va_up (va_up (va_up qS 0 o_2) 1 o_3) 2 o_4) 3 o_5), x_6) := by subst eo_2 eo_3 eo_4 eo_5 ex_6; exact (if_neg c_1).trans (rfl)
set_option maxHeartbeats 4000000 in
set_option maxRecDepth 100000 in
theorem c_X5_add (l : Launch) (D : va_G) (cI cL : ClassId)   (adS : Nat) (rS : Nat → Nat) (qS : Nat → Nat → Int32) (nS : Int32) (p0 : Int32) (p1 : Int32) (p2 : Int32) (p3 : Int32)  : Xv l yX5_add (wm yX5_add cX5_add 5 none) (xR (1) (22)) D (tyA cI cL) [.ref adS, .int p0, .int p1, .int p2, .int p3] [(adS, .inr (5, [.ref (rS 0), .ref (rS 1), .ref (rS 2), .ref (rS 3), .int nS])), ((rS 0), .inl (cI, 8, .inl (qS 0))), ((rS 1), .inl (cI, 8, .inl (qS 1))), ((rS 2), .inl (cI, 8, .inl (qS 2))), ((rS 3), .inl (cI, 8, .inl (qS 3)))] [(adS, .inr (5, [.ref (rS 0), .ref (rS 1), .ref (rS 2), .ref (rS 3), .int (F_X5_add qS nS p0 p1 p2 p3).2])), ((rS 0), .inl (cI, 8, .inl ((F_X5_add qS nS p0 p1 p2 p3).1 0))), ((rS 1), .inl (cI, 8, .inl ((F_X5_add qS nS p0 p1 p2 p3).1 1))), ((rS 2), .inl (cI, 8, .inl ((F_X5_add qS nS p0 p1 p2 p3).1 2))), ((rS 3), .inl (cI, 8, .inl ((F_X5_add qS nS p0 p1 p2 p3).1 3)))] := by
  intro sz
  refine x_in (cc := cX5_add) (maxL := 5) (ret := none) (by decide) rfl (Nat.le_of_ble_eq_true rfl) (fun p e s m below meth c A ls hfix hr hlocks hN hK hP hAe hD hA hS hl => ?_)
  obtain ⟨hx, hb, hml, hown, hts⟩ := hfix
  rw [← hAe]
  clear hAe
  have hown : s.vm.findClass RX5 = some m.cls := hown
  have htL : ∀ w ∈ wsL_law, w.before ([.ref adS, .int p0, .int p1, .int p2, .int p3] : List Value).toArray s = true := fun w h => hts w (List.mem_cons_of_mem _ h)
  have hl : lv_has ls 5 [(0, .ref adS), (1, .int p0), (2, .int p1), (3, .int p2), (4, .int p3)] := hl
  refine lv_aload_n hx hb dX5_add_0 rfl (lv_at hl 0 rfl) ?_
  refine va_get (D := D) (ci := 5) (v := .int nS) (C := RX5) (T := TX5) (N := 5) hx hb hts (fun _ h => w_in (inlX5 _ h)) hown hK hP 0 rfl rfl 4 (by decide) (htL _ wd_58) (fun _ h9 => h9) rfl dX5_add_1 ?_
  refine lv_bipush (v := 8) hx hb dX5_add_4 (by decide) ?_
  refine lv_icmp_ge (tgt := 68) hx hb dX5_add_6 (by decide) (fun c_1 => ?_) (fun c_1 => ?_)
  · have hF1 : F_X5_add qS nS p0 p1 p2 p3 = (qS, nS) := (eX5_add_1 qS nS p0 p1 p2 p3 c_1)
    exact xv_ret hx hb hr hlocks hP hS (congrArg (fun o : (Nat → Nat → Int32) × Int32 => ([(adS, .inr (5, [.ref (rS 0), .ref (rS 1), .ref (rS 2), .ref (rS 3), .int o.2])), ((rS 0), .inl (cI, 8, .inl (o.1 0))), ((rS 1), .inl (cI, 8, .inl (o.1 1))), ((rS 2), .inl (cI, 8, .inl (o.1 2))), ((rS 3), .inl (cI, 8, .inl (o.1 3)))] : va_W)) hF1).symm dX5_add_68
  · refine lv_aload_n hx hb dX5_add_9 rfl (lv_at hl 0 rfl) ?_
    refine va_get (D := D) (ci := 5) (v := .ref (rS 0)) (C := RX5) (T := TX5) (N := 5) hx hb hts (fun _ h => w_in (inlX5 _ h)) hown hK hP 0 rfl rfl 0 (by decide) (htL _ wd_54) (fun _ h9 => h9) rfl dX5_add_10 ?_
    refine lv_aload_n hx hb dX5_add_13 rfl (lv_at hl 0 rfl) ?_
    refine va_get (D := D) (ci := 5) (v := .int nS) (C := RX5) (T := TX5) (N := 5) hx hb hts (fun _ h => w_in (inlX5 _ h)) hown hK hP 0 rfl rfl 4 (by decide) (htL _ wd_58) (fun _ h9 => h9) rfl dX5_add_14 ?_
    refine lv_iload_n hx hb dX5_add_17 rfl (lv_at hl 1 rfl) ?_
    refine x_wv2 (a := ([(adS, .inr (5, [.ref (rS 0), .ref (rS 1), .ref (rS 2), .ref (rS 3), .int nS])), ((rS 0), .inl (cI, 8, .inl (qS 0))), ((rS 1), .inl (cI, 8, .inl (qS 1))), ((rS 2), .inl (cI, 8, .inl (qS 2))), ((rS 3), .inl (cI, 8, .inl (qS 3)))] : va_W)) (t := []) (o0 := (F_X6_put (qS 0) 8 nS p0)) (fun o : Nat → Int32 => ([((rS 0), .inl (cI, 8, .inl o))] : va_W)) (fun o : Nat → Int32 => ([(adS, .inr (5, [.ref (rS 0), .ref (rS 1), .ref (rS 2), .ref (rS 3), .int nS])), ((rS 0), .inl (cI, 8, .inl o)), ((rS 1), .inl (cI, 8, .inl (qS 1))), ((rS 2), .inl (cI, 8, .inl (qS 2))), ((rS 3), .inl (cI, 8, .inl (qS 3)))] : va_W)) [1] [0, 2, 3, 4] (va_runSN (As := [.ref (rS 0), .int nS, .int p0]) (rest := []) ⟨hx, hb, hml, hown, hts⟩ (c_X6_put l D cI cL (rS 0) (qS 0) 8 nS p0 (by decide) _) ⟨va_cnB 3 hts (gg_ok (fun _ h => w_in h) wd_142) rfl rfl rfl (nm_OverTheShoulder_Sheet_28 hN) (htL _ wd_2) (by decide +kernel) ⟨Nat.le_of_ble_eq_true rfl, Nat.le_of_ble_eq_true rfl⟩, (htL _ wd_141), trivial⟩ (x_ps hN hK hP hD [1] rfl rfl) rfl rfl hl.1 rfl (lv_room (Nat.le_of_ble_eq_true rfl)) dX5_add_18 ⟨Nat.zero_le _, Nat.zero_le _⟩) hP hD hS hA rfl (fun _ => rfl) (fun _ => rfl) [(adS, .inr (5, [.ref (rS 0), .ref (rS 1), .ref (rS 2), .ref (rS 3), .int nS])), ((rS 1), .inl (cI, 8, .inl (qS 1))), ((rS 2), .inl (cI, 8, .inl (qS 2))), ((rS 3), .inl (cI, 8, .inl (qS 3)))] rfl (fun _ => rfl) rfl (fun o_2 H locs eo_2 hP hD hS => ?_)
    have hP : va_P D vwCl [(adS, .inr (5, [.ref (rS 0), .ref (rS 1), .ref (rS 2), .ref (rS 3), .int nS])), ((rS 0), .inl (cI, 8, .inl o_2)), ((rS 1), .inl (cI, 8, .inl (qS 1))), ((rS 2), .inl (cI, 8, .inl (qS 2))), ((rS 3), .inl (cI, 8, .inl (qS 3)))] _ := hP
    have hD : va_D A [(adS, .inr (5, [.ref (rS 0), .ref (rS 1), .ref (rS 2), .ref (rS 3), .int nS])), ((rS 0), .inl (cI, 8, .inl o_2)), ((rS 1), .inl (cI, 8, .inl (qS 1))), ((rS 2), .inl (cI, 8, .inl (qS 2))), ((rS 3), .inl (cI, 8, .inl (qS 3)))] := hD
    refine lv_aload_n hx hb dX5_add_21 rfl (lv_at hl 0 rfl) ?_
    refine va_get (D := D) (ci := 5) (v := .ref (rS 1)) (C := RX5) (T := TX5) (N := 5) hx hb hts (fun _ h => w_in (inlX5 _ h)) hown hK hP 0 rfl rfl 1 (by decide) (htL _ wd_55) (fun _ h9 => h9) rfl dX5_add_22 ?_
    refine lv_aload_n hx hb dX5_add_25 rfl (lv_at hl 0 rfl) ?_
    refine va_get (D := D) (ci := 5) (v := .int nS) (C := RX5) (T := TX5) (N := 5) hx hb hts (fun _ h => w_in (inlX5 _ h)) hown hK hP 0 rfl rfl 4 (by decide) (htL _ wd_58) (fun _ h9 => h9) rfl dX5_add_26 ?_
    refine lv_iload_n hx hb dX5_add_29 rfl (lv_at hl 2 rfl) ?_
    refine x_wv2 (a := ([(adS, .inr (5, [.ref (rS 0), .ref (rS 1), .ref (rS 2), .ref (rS 3), .int nS])), ((rS 0), .inl (cI, 8, .inl o_2)), ((rS 1), .inl (cI, 8, .inl (qS 1))), ((rS 2), .inl (cI, 8, .inl (qS 2))), ((rS 3), .inl (cI, 8, .inl (qS 3)))] : va_W)) (t := []) (o0 := (F_X6_put (qS 1) 8 nS p1)) (fun o : Nat → Int32 => ([((rS 1), .inl (cI, 8, .inl o))] : va_W)) (fun o : Nat → Int32 => ([(adS, .inr (5, [.ref (rS 0), .ref (rS 1), .ref (rS 2), .ref (rS 3), .int nS])), ((rS 0), .inl (cI, 8, .inl o_2)), ((rS 1), .inl (cI, 8, .inl o)), ((rS 2), .inl (cI, 8, .inl (qS 2))), ((rS 3), .inl (cI, 8, .inl (qS 3)))] : va_W)) [2] [0, 1, 3, 4] (va_runSN (As := [.ref (rS 1), .int nS, .int p1]) (rest := []) ⟨hx, hb, hml, hown, hts⟩ (c_X6_put l D cI cL (rS 1) (qS 1) 8 nS p1 (by decide) _) ⟨va_cnB 3 hts (gg_ok (fun _ h => w_in h) wd_142) rfl rfl rfl (nm_OverTheShoulder_Sheet_28 hN) (htL _ wd_2) (by decide +kernel) ⟨Nat.le_of_ble_eq_true rfl, Nat.le_of_ble_eq_true rfl⟩, (htL _ wd_141), trivial⟩ (x_ps hN hK hP hD [2] rfl rfl) rfl rfl hl.1 rfl (lv_room (Nat.le_of_ble_eq_true rfl)) dX5_add_30 ⟨Nat.zero_le _, Nat.zero_le _⟩) hP hD hS hA rfl (fun _ => rfl) (fun _ => rfl) [(adS, .inr (5, [.ref (rS 0), .ref (rS 1), .ref (rS 2), .ref (rS 3), .int nS])), ((rS 0), .inl (cI, 8, .inl o_2)), ((rS 2), .inl (cI, 8, .inl (qS 2))), ((rS 3), .inl (cI, 8, .inl (qS 3)))] rfl (fun _ => rfl) rfl (fun o_3 H locs eo_3 hP hD hS => ?_)
    have hP : va_P D vwCl [(adS, .inr (5, [.ref (rS 0), .ref (rS 1), .ref (rS 2), .ref (rS 3), .int nS])), ((rS 0), .inl (cI, 8, .inl o_2)), ((rS 1), .inl (cI, 8, .inl o_3)), ((rS 2), .inl (cI, 8, .inl (qS 2))), ((rS 3), .inl (cI, 8, .inl (qS 3)))] _ := hP
    have hD : va_D A [(adS, .inr (5, [.ref (rS 0), .ref (rS 1), .ref (rS 2), .ref (rS 3), .int nS])), ((rS 0), .inl (cI, 8, .inl o_2)), ((rS 1), .inl (cI, 8, .inl o_3)), ((rS 2), .inl (cI, 8, .inl (qS 2))), ((rS 3), .inl (cI, 8, .inl (qS 3)))] := hD
    refine lv_aload_n hx hb dX5_add_33 rfl (lv_at hl 0 rfl) ?_
    refine va_get (D := D) (ci := 5) (v := .ref (rS 2)) (C := RX5) (T := TX5) (N := 5) hx hb hts (fun _ h => w_in (inlX5 _ h)) hown hK hP 0 rfl rfl 2 (by decide) (htL _ wd_56) (fun _ h9 => h9) rfl dX5_add_34 ?_
    refine lv_aload_n hx hb dX5_add_37 rfl (lv_at hl 0 rfl) ?_
    refine va_get (D := D) (ci := 5) (v := .int nS) (C := RX5) (T := TX5) (N := 5) hx hb hts (fun _ h => w_in (inlX5 _ h)) hown hK hP 0 rfl rfl 4 (by decide) (htL _ wd_58) (fun _ h9 => h9) rfl dX5_add_38 ?_
    refine lv_iload_n hx hb dX5_add_41 rfl (lv_at hl 3 rfl) ?_
    refine x_wv2 (a := ([(adS, .inr (5, [.ref (rS 0), .ref (rS 1), .ref (rS 2), .ref (rS 3), .int nS])), ((rS 0), .inl (cI, 8, .inl o_2)), ((rS 1), .inl (cI, 8, .inl o_3)), ((rS 2), .inl (cI, 8, .inl (qS 2))), ((rS 3), .inl (cI, 8, .inl (qS 3)))] : va_W)) (t := []) (o0 := (F_X6_put (qS 2) 8 nS p2)) (fun o : Nat → Int32 => ([((rS 2), .inl (cI, 8, .inl o))] : va_W)) (fun o : Nat → Int32 => ([(adS, .inr (5, [.ref (rS 0), .ref (rS 1), .ref (rS 2), .ref (rS 3), .int nS])), ((rS 0), .inl (cI, 8, .inl o_2)), ((rS 1), .inl (cI, 8, .inl o_3)), ((rS 2), .inl (cI, 8, .inl o)), ((rS 3), .inl (cI, 8, .inl (qS 3)))] : va_W)) [3] [0, 1, 2, 4] (va_runSN (As := [.ref (rS 2), .int nS, .int p2]) (rest := []) ⟨hx, hb, hml, hown, hts⟩ (c_X6_put l D cI cL (rS 2) (qS 2) 8 nS p2 (by decide) _) ⟨va_cnB 3 hts (gg_ok (fun _ h => w_in h) wd_142) rfl rfl rfl (nm_OverTheShoulder_Sheet_28 hN) (htL _ wd_2) (by decide +kernel) ⟨Nat.le_of_ble_eq_true rfl, Nat.le_of_ble_eq_true rfl⟩, (htL _ wd_141), trivial⟩ (x_ps hN hK hP hD [3] rfl rfl) rfl rfl hl.1 rfl (lv_room (Nat.le_of_ble_eq_true rfl)) dX5_add_42 ⟨Nat.zero_le _, Nat.zero_le _⟩) hP hD hS hA rfl (fun _ => rfl) (fun _ => rfl) [(adS, .inr (5, [.ref (rS 0), .ref (rS 1), .ref (rS 2), .ref (rS 3), .int nS])), ((rS 0), .inl (cI, 8, .inl o_2)), ((rS 1), .inl (cI, 8, .inl o_3)), ((rS 3), .inl (cI, 8, .inl (qS 3)))] rfl (fun _ => rfl) rfl (fun o_4 H locs eo_4 hP hD hS => ?_)
    have hP : va_P D vwCl [(adS, .inr (5, [.ref (rS 0), .ref (rS 1), .ref (rS 2), .ref (rS 3), .int nS])), ((rS 0), .inl (cI, 8, .inl o_2)), ((rS 1), .inl (cI, 8, .inl o_3)), ((rS 2), .inl (cI, 8, .inl o_4)), ((rS 3), .inl (cI, 8, .inl (qS 3)))] _ := hP
    have hD : va_D A [(adS, .inr (5, [.ref (rS 0), .ref (rS 1), .ref (rS 2), .ref (rS 3), .int nS])), ((rS 0), .inl (cI, 8, .inl o_2)), ((rS 1), .inl (cI, 8, .inl o_3)), ((rS 2), .inl (cI, 8, .inl o_4)), ((rS 3), .inl (cI, 8, .inl (qS 3)))] := hD
    refine lv_aload_n hx hb dX5_add_45 rfl (lv_at hl 0 rfl) ?_
    refine va_get (D := D) (ci := 5) (v := .ref (rS 3)) (C := RX5) (T := TX5) (N := 5) hx hb hts (fun _ h => w_in (inlX5 _ h)) hown hK hP 0 rfl rfl 3 (by decide) (htL _ wd_57) (fun _ h9 => h9) rfl dX5_add_46 ?_
    refine lv_aload_n hx hb dX5_add_49 rfl (lv_at hl 0 rfl) ?_
    refine va_get (D := D) (ci := 5) (v := .int nS) (C := RX5) (T := TX5) (N := 5) hx hb hts (fun _ h => w_in (inlX5 _ h)) hown hK hP 0 rfl rfl 4 (by decide) (htL _ wd_58) (fun _ h9 => h9) rfl dX5_add_50 ?_
    refine lv_iload hx hb dX5_add_53 (lv_at hl 4 rfl) ?_
    refine x_wv2 (a := ([(adS, .inr (5, [.ref (rS 0), .ref (rS 1), .ref (rS 2), .ref (rS 3), .int nS])), ((rS 0), .inl (cI, 8, .inl o_2)), ((rS 1), .inl (cI, 8, .inl o_3)), ((rS 2), .inl (cI, 8, .inl o_4)), ((rS 3), .inl (cI, 8, .inl (qS 3)))] : va_W)) (t := []) (o0 := (F_X6_put (qS 3) 8 nS p3)) (fun o : Nat → Int32 => ([((rS 3), .inl (cI, 8, .inl o))] : va_W)) (fun o : Nat → Int32 => ([(adS, .inr (5, [.ref (rS 0), .ref (rS 1), .ref (rS 2), .ref (rS 3), .int nS])), ((rS 0), .inl (cI, 8, .inl o_2)), ((rS 1), .inl (cI, 8, .inl o_3)), ((rS 2), .inl (cI, 8, .inl o_4)), ((rS 3), .inl (cI, 8, .inl o))] : va_W)) [4] [0, 1, 2, 3] (va_runSN (As := [.ref (rS 3), .int nS, .int p3]) (rest := []) ⟨hx, hb, hml, hown, hts⟩ (c_X6_put l D cI cL (rS 3) (qS 3) 8 nS p3 (by decide) _) ⟨va_cnB 3 hts (gg_ok (fun _ h => w_in h) wd_142) rfl rfl rfl (nm_OverTheShoulder_Sheet_28 hN) (htL _ wd_2) (by decide +kernel) ⟨Nat.le_of_ble_eq_true rfl, Nat.le_of_ble_eq_true rfl⟩, (htL _ wd_141), trivial⟩ (x_ps hN hK hP hD [4] rfl rfl) rfl rfl hl.1 rfl (lv_room (Nat.le_of_ble_eq_true rfl)) dX5_add_55 ⟨Nat.zero_le _, Nat.zero_le _⟩) hP hD hS hA rfl (fun _ => rfl) (fun _ => rfl) [(adS, .inr (5, [.ref (rS 0), .ref (rS 1), .ref (rS 2), .ref (rS 3), .int nS])), ((rS 0), .inl (cI, 8, .inl o_2)), ((rS 1), .inl (cI, 8, .inl o_3)), ((rS 2), .inl (cI, 8, .inl o_4))] rfl (fun _ => rfl) rfl (fun o_5 H locs eo_5 hP hD hS => ?_)
    have hP : va_P D vwCl [(adS, .inr (5, [.ref (rS 0), .ref (rS 1), .ref (rS 2), .ref (rS 3), .int nS])), ((rS 0), .inl (cI, 8, .inl o_2)), ((rS 1), .inl (cI, 8, .inl o_3)), ((rS 2), .inl (cI, 8, .inl o_4)), ((rS 3), .inl (cI, 8, .inl o_5))] _ := hP
    have hD : va_D A [(adS, .inr (5, [.ref (rS 0), .ref (rS 1), .ref (rS 2), .ref (rS 3), .int nS])), ((rS 0), .inl (cI, 8, .inl o_2)), ((rS 1), .inl (cI, 8, .inl o_3)), ((rS 2), .inl (cI, 8, .inl o_4)), ((rS 3), .inl (cI, 8, .inl o_5))] := hD
    refine lv_aload_n hx hb dX5_add_58 rfl (lv_at hl 0 rfl) ?_
    refine lv_dup hx hb dX5_add_59 rfl ?_
    refine va_get (D := D) (ci := 5) (v := .int nS) (C := RX5) (T := TX5) (N := 5) hx hb hts (fun _ h => w_in (inlX5 _ h)) hown hK hP 0 rfl rfl 4 (by decide) (htL _ wd_58) (fun _ h9 => h9) rfl dX5_add_60 ?_
    refine lv_iconst (v := 1) hx hb dX5_add_63 (by decide) ?_
    refine lv_iadd hx hb dX5_add_64 ?_
    refine lv_topi (fun x_6 ex_6 => ?_)
    refine va_put (D := D) (ci := 5) (v := .int x_6) (ty := .int) (C := RX5) (T := TX5) (N := 5) hx hb hts (fun _ h => w_in (inlX5 _ h)) tyX5 tyX5_ok nmX5 hown hK hP hD hS 0 rfl rfl 4 (by decide) (htL _ wd_58) (fun _ h9 => h9) rfl (by decide +kernel) rfl rfl (Nat.le_of_ble_eq_true rfl) dX5_add_65 (fun H locs hP hD hS => ?_)
    have hP : va_P D vwCl [(adS, .inr (5, [.ref (rS 0), .ref (rS 1), .ref (rS 2), .ref (rS 3), .int x_6])), ((rS 0), .inl (cI, 8, .inl o_2)), ((rS 1), .inl (cI, 8, .inl o_3)), ((rS 2), .inl (cI, 8, .inl o_4)), ((rS 3), .inl (cI, 8, .inl o_5))] _ := hP
    have hD : va_D A [(adS, .inr (5, [.ref (rS 0), .ref (rS 1), .ref (rS 2), .ref (rS 3), .int x_6])), ((rS 0), .inl (cI, 8, .inl o_2)), ((rS 1), .inl (cI, 8, .inl o_3)), ((rS 2), .inl (cI, 8, .inl o_4)), ((rS 3), .inl (cI, 8, .inl o_5))] := hD
    have hF1 : F_X5_add qS nS p0 p1 p2 p3 = ((va_up (va_up (va_up (va_up qS 0 o_2) 1 o_3) 2 o_4) 3 o_5), x_6) := (eX5_add_2 qS nS p0 p1 p2 p3 o_2 o_3 o_4 o_5 x_6 eo_2 eo_3 eo_4 eo_5 ex_6 c_1)
    exact xv_ret hx hb hr hlocks hP hS (congrArg (fun o : (Nat → Nat → Int32) × Int32 => ([(adS, .inr (5, [.ref (rS 0), .ref (rS 1), .ref (rS 2), .ref (rS 3), .int o.2])), ((rS 0), .inl (cI, 8, .inl (o.1 0))), ((rS 1), .inl (cI, 8, .inl (o.1 1))), ((rS 2), .inl (cI, 8, .inl (o.1 2))), ((rS 3), .inl (cI, 8, .inl (o.1 3)))] : va_W)) hF1).symm dX5_add_68
