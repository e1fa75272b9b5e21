noncomputable def F_X4_planned (bR : Nat → Nat → Int32) (cR : Nat → Int32) (p0 : Int32) : Int32 :=
  if p0 < 0 then
  ((-9))
  else
  (if (cR 13) ≤ p0 then
  ((-9))
  else
  (let r_3 : Int32 := (F_X6_at (bR 10) 8 p0)
  r_3))
set_option maxRecDepth 100000 in
theorem eX4_planned_1 (bR : Nat → Nat → Int32) (cR : Nat → Int32) (p0 : Int32) (c_1 : p0 < 0) : F_X4_planned bR cR p0 = (-9) := by exact (if_pos c_1).trans (rfl)
set_option maxRecDepth 100000 in
theorem eX4_planned_2 (bR : Nat → Nat → Int32) (cR : Nat → Int32) (p0 : Int32) (c_1 : ¬ (p0 < 0)) (c_2 : (cR 13) ≤ p0) : F_X4_planned bR cR p0 = (-9) := by exact (if_neg c_1).trans ((if_pos c_2).trans (rfl))
set_option maxRecDepth 100000 in
theorem eX4_planned_3 (bR : Nat → Nat → Int32) (cR : Nat → Int32) (p0 : Int32) (r_3 : Int32) (er_3 : r_3 = (F_X6_at (bR 10) 8 p0)) (c_1 : ¬ (p0 < 0)) (c_2 : ¬ ((cR 13) ≤ p0)) : F_X4_planned bR cR p0 = r_3 := by subst er_3; exact (if_neg c_1).trans ((if_neg c_2).trans (rfl))
set_option maxHeartbeats 4000000 in
set_option maxRecDepth 100000 in
theorem c_X4_planned (l : Launch) (D : va_G) (cI cL : ClassId)   (adR : Nat) (rR : Nat → Nat) (bR : Nat → Nat → Int32) (cR : Nat → Int32) (p0 : Int32)  : Xi l yX4_planned (wm yX4_planned cX4_planned 2 (some .int)) (xR (1) (21)) D (tyA cI cL) [.ref adR, .int p0] [(adR, .inr (4, [.ref (rR 0), .ref (rR 1), .ref (rR 2), .ref (rR 3), .ref (rR 4), .ref (rR 5), .ref (rR 6), .ref (rR 7), .ref (rR 8), .ref (rR 9), .ref (rR 10), .int (cR 11), .int (cR 12), .int (cR 13), .int (cR 14)])), ((rR 0), .inl (cI, 8, .inl (bR 0))), ((rR 1), .inl (cI, 8, .inl (bR 1))), ((rR 2), .inl (cI, 8, .inl (bR 2))), ((rR 3), .inl (cI, 4, .inl (bR 3))), ((rR 4), .inl (cI, 9, .inl (bR 4))), ((rR 5), .inl (cI, 9, .inl (bR 5))), ((rR 6), .inl (cI, 9, .inl (bR 6))), ((rR 7), .inl (cI, 9, .inl (bR 7))), ((rR 8), .inl (cI, 9, .inl (bR 8))), ((rR 9), .inl (cI, 8, .inl (bR 9))), ((rR 10), .inl (cI, 8, .inl (bR 10)))] [(adR, .inr (4, [.ref (rR 0), .ref (rR 1), .ref (rR 2), .ref (rR 3), .ref (rR 4), .ref (rR 5), .ref (rR 6), .ref (rR 7), .ref (rR 8), .ref (rR 9), .ref (rR 10), .int (cR 11), .int (cR 12), .int (cR 13), .int (cR 14)])), ((rR 0), .inl (cI, 8, .inl (bR 0))), ((rR 1), .inl (cI, 8, .inl (bR 1))), ((rR 2), .inl (cI, 8, .inl (bR 2))), ((rR 3), .inl (cI, 4, .inl (bR 3))), ((rR 4), .inl (cI, 9, .inl (bR 4))), ((rR 5), .inl (cI, 9, .inl (bR 5))), ((rR 6), .inl (cI, 9, .inl (bR 6))), ((rR 7), .inl (cI, 9, .inl (bR 7))), ((rR 8), .inl (cI, 9, .inl (bR 8))), ((rR 9), .inl (cI, 8, .inl (bR 9))), ((rR 10), .inl (cI, 8, .inl (bR 10)))] (F_X4_planned bR cR p0) := by
  intro sz
  refine x_in (cc := cX4_planned) (maxL := 2) (ret := (some .int)) (by decide) rfl (Nat.le_of_ble_eq_true rfl) (fun p e s m below meth c A ls hfix hr hlocks hN hK hP hAe hD hA hS hl => ?_)
  obtain ⟨hx, hb, hml, hown, hts⟩ := hfix
  rw [← hAe]
  clear hAe
  have hown : s.vm.findClass RX4 = some m.cls := hown
  have htL : ∀ w ∈ wsL_law, w.before ([.ref adR, .int p0] : List Value).toArray s = true := fun w h => hts w (List.mem_cons_of_mem _ h)
  have hl : lv_has ls 2 [(0, .ref adR), (1, .int p0)] := hl
  refine lv_iload_n hx hb dX4_planned_0 rfl (lv_at hl 1 rfl) ?_
  refine lv_if_lt (tgt := 23) hx hb dX4_planned_1 (by decide) (fun c_1 => ?_) (fun c_1 => ?_)
  · refine lv_bipush (v := (-9)) hx hb dX4_planned_23 (by decide) ?_
    have hF1 : F_X4_planned bR cR p0 = (-9) := (eX4_planned_1 bR cR p0 c_1)
    exact xi_ret hx hb hr hlocks hP hS rfl (congrArg (fun o : Int32 => o) hF1).symm dX4_planned_25
  · refine lv_iload_n hx hb dX4_planned_4 rfl (lv_at hl 1 rfl) ?_
    refine lv_aload_n hx hb dX4_planned_5 rfl (lv_at hl 0 rfl) ?_
    refine va_get (D := D) (ci := 4) (v := .int (cR 13)) (C := RX4) (T := TX4) (N := 15) hx hb hts (fun _ h => w_in (inlX4 _ h)) hown hK hP 0 rfl rfl 13 (by decide) (htL _ wd_99) (fun _ h9 => h9) rfl dX4_planned_6 ?_
    refine lv_icmp_ge (tgt := 23) hx hb dX4_planned_9 (by decide) (fun c_2 => ?_) (fun c_2 => ?_)
    · refine lv_bipush (v := (-9)) hx hb dX4_planned_23 (by decide) ?_
      have hF1 : F_X4_planned bR cR p0 = (-9) := (eX4_planned_2 bR cR p0 c_1 c_2)
      exact xi_ret hx hb hr hlocks hP hS rfl (congrArg (fun o : Int32 => o) hF1).symm dX4_planned_25
    · refine lv_aload_n hx hb dX4_planned_12 rfl (lv_at hl 0 rfl) ?_
      refine va_get (D := D) (ci := 4) (v := .ref (rR 10)) (C := RX4) (T := TX4) (N := 15) hx hb hts (fun _ h => w_in (inlX4 _ h)) hown hK hP 0 rfl rfl 10 (by decide) (htL _ wd_96) (fun _ h9 => h9) rfl dX4_planned_13 ?_
      refine lv_iload_n hx hb dX4_planned_16 rfl (lv_at hl 1 rfl) ?_
      refine x_ci [11] (va_runSN (As := [.ref (rR 10), .int p0]) (rest := []) ⟨hx, hb, hml, hown, hts⟩ (c_X6_at l D cI cL (rR 10) (bR 10) 8 p0 (by decide) _) ⟨va_cnB 2 hts (gg_ok (fun _ h => w_in h) wd_139) rfl rfl rfl (nm_OverTheShoulder_Search_102 hN) (htL _ wd_2) (by decide +kernel) ⟨Nat.le_of_ble_eq_true rfl, Nat.le_of_ble_eq_true rfl⟩, (htL _ wd_138), trivial⟩ (x_ps hN hK hP hD [11] rfl rfl) rfl rfl hl.1 rfl (lv_room (Nat.le_of_ble_eq_true rfl)) dX4_planned_17 ⟨Nat.zero_le _, Nat.zero_le _⟩) hP hD hS hA rfl (fun r_3 H locs er_3 hP hS => ?_)
      refine lv_goto (tgt := 25) hx hb dX4_planned_20 (by decide) ?_
      have hF1 : F_X4_planned bR cR p0 = r_3 := (eX4_planned_3 bR cR p0 r_3 er_3 c_1 c_2)
      exact xi_ret hx hb hr hlocks hP hS rfl (congrArg (fun o : Int32 => o) hF1).symm dX4_planned_25

noncomputable def F_X4_isHopeless (bR : Nat → Nat → Int32) (cR : Nat → Int32) (p0 : Int32) : Int32 :=
  let r_1 : Int32 := (F_X6_at (bR 8) 9 p0)
  let x_2 : Int32 := (r_1 + (cR 12))
  if x_2 < (cR 14) then
  (1)
  else
  (if x_2 = (cR 14) then
  (let x_5 : Int32 := (p0 + 1)
  if x_5 < (cR 13) then
  (0)
  else
  (1))
  else
  (0))
theorem nz_X4_isHopeless (bR : Nat → Nat → Int32) (cR : Nat → Int32) (p0 : Int32) : narrow .boolean (.int (F_X4_isHopeless bR cR p0)) = .int (F_X4_isHopeless bR cR p0) := by
  unfold F_X4_isHopeless
  try dsimp only
  (repeat' split) <;> rfl
set_option maxRecDepth 100000 in
theorem eX4_isHopeless_1 (bR : Nat → Nat → Int32) (cR : Nat → Int32) (p0 : Int32) (r_1 : Int32) (x_2 : Int32) (er_1 : r_1 = (F_X6_at (bR 8) 9 p0)) (ex_2 : x_2 = (r_1 + (cR 12))) (c_3 : x_2 < (cR 14)) : F_X4_isHopeless bR cR p0 = 1 := by subst er_1 ex_2; exact (if_pos c_3).trans (rfl)
set_option maxRecDepth 100000 in
theorem eX4_isHopeless_2 (bR : Nat → Nat → Int32) (cR : Nat → Int32) (p0 : Int32) (r_1 : Int32) (x_2 : Int32) (er_1 : r_1 = (F_X6_at (bR 8) 9 p0)) (ex_2 : x_2 = (r_1 + (cR 12))) (c_3 : ¬ (x_2 < (cR 14))) (c_4 : ¬ (x_2 = (cR 14))) : F_X4_isHopeless bR cR p0 = 0 := by subst er_1 ex_2; exact (if_neg c_3).trans ((if_neg c_4).trans (rfl))
set_option maxRecDepth 100000 in
theorem eX4_isHopeless_3 (bR : Nat → Nat → Int32) (cR : Nat → Int32) (p0 : Int32) (r_1 : Int32) (x_2 : Int32) (x_5 : Int32) (er_1 : r_1 = (F_X6_at (bR 8) 9 p0)) (ex_2 : x_2 = (r_1 + (cR 12))) (ex_5 : x_5 = (p0 + 1)) (c_3 : ¬ (x_2 < (cR 14))) (c_4 : x_2 = (cR 14)) (c_6 : x_5 < (cR 13)) : F_X4_isHopeless bR cR p0 = 0 := by subst er_1 ex_2 ex_5; exact (if_neg c_3).trans ((if_pos c_4).trans ((if_pos c_6).trans (rfl)))
set_option maxRecDepth 100000 in
theorem eX4_isHopeless_4 (bR : Nat → Nat → Int32) (cR : Nat → Int32) (p0 : Int32) (r_1 : Int32) (x_2 : Int32) (x_5 : Int32) (er_1 : r_1 = (F_X6_at (bR 8) 9 p0)) (ex_2 : x_2 = (r_1 + (cR 12))) (ex_5 : x_5 = (p0 + 1)) (c_3 : ¬ (x_2 < (cR 14))) (c_4 : x_2 = (cR 14)) (c_6 : ¬ (x_5 < (cR 13))) : F_X4_isHopeless bR cR p0 = 1 := by subst er_1 ex_2 ex_5; exact (if_neg c_3).trans ((if_pos c_4).trans ((if_neg c_6).trans (rfl)))
set_option maxHeartbeats 4000000 in
set_option maxRecDepth 100000 in
theorem c_X4_isHopeless (l : Launch) (D : va_G) (cI cL : ClassId)   (adR : Nat) (rR : Nat → Nat) (bR : Nat → Nat → Int32) (cR : Nat → Int32) (p0 : Int32)  : Xi l yX4_isHopeless (wm yX4_isHopeless cX4_isHopeless 3 (some .boolean)) (xR (1) (21)) D (tyA cI cL) [.ref adR, .int p0] [(adR, .inr (4, [.ref (rR 0), .ref (rR 1), .ref (rR 2), .ref (rR 3), .ref (rR 4), .ref (rR 5), .ref (rR 6), .ref (rR 7), .ref (rR 8), .ref (rR 9), .ref (rR 10), .int (cR 11), .int (cR 12), .int (cR 13), .int (cR 14)])), ((rR 0), .inl (cI, 8, .inl (bR 0))), ((rR 1), .inl (cI, 8, .inl (bR 1))), ((rR 2), .inl (cI, 8, .inl (bR 2))), ((rR 3), .inl (cI, 4, .inl (bR 3))), ((rR 4), .inl (cI, 9, .inl (bR 4))), ((rR 5), .inl (cI, 9, .inl (bR 5))), ((rR 6), .inl (cI, 9, .inl (bR 6))), ((rR 7), .inl (cI, 9, .inl (bR 7))), ((rR 8), .inl (cI, 9, .inl (bR 8))), ((rR 9), .inl (cI, 8, .inl (bR 9))), ((rR 10), .inl (cI, 8, .inl (bR 10)))] [(adR, .inr (4, [.ref (rR 0), .ref (rR 1), .ref (rR 2), .ref (rR 3), .ref (rR 4), .ref (rR 5), .ref (rR 6), .ref (rR 7), .ref (rR 8), .ref (rR 9), .ref (rR 10), .int (cR 11), .int (cR 12), .int (cR 13), .int (cR 14)])), ((rR 0), .inl (cI, 8, .inl (bR 0))), ((rR 1), .inl (cI, 8, .inl (bR 1))), ((rR 2), .inl (cI, 8, .inl (bR 2))), ((rR 3), .inl (cI, 4, .inl (bR 3))), ((rR 4), .inl (cI, 9, .inl (bR 4))), ((rR 5), .inl (cI, 9, .inl (bR 5))), ((rR 6), .inl (cI, 9, .inl (bR 6))), ((rR 7), .inl (cI, 9, .inl (bR 7))), ((rR 8), .inl (cI, 9, .inl (bR 8))), ((rR 9), .inl (cI, 8, .inl (bR 9))), ((rR 10), .inl (cI, 8, .inl (bR 10)))] (F_X4_isHopeless bR cR p0) := by
  intro sz
  refine x_in (cc := cX4_isHopeless) (maxL := 3) (ret := (some .boolean)) (by decide) rfl (Nat.le_of_ble_eq_true rfl) (fun p e s m below meth c A ls hfix hr hlocks hN hK hP hAe hD hA hS hl => ?_)
  obtain ⟨hx, hb, hml, hown, hts⟩ := hfix
  rw [← hAe]
  clear hAe
  have hown : s.vm.findClass RX4 = some m.cls := hown
  have htL : ∀ w ∈ wsL_law, w.before ([.ref adR, .int p0] : List Value).toArray s = true := fun w h => hts w (List.mem_cons_of_mem _ h)
  have hl : lv_has ls 3 [(0, .ref adR), (1, .int p0)] := hl
  refine lv_aload_n hx hb dX4_isHopeless_0 rfl (lv_at hl 0 rfl) ?_
  refine va_get (D := D) (ci := 4) (v := .ref (rR 8)) (C := RX4) (T := TX4) (N := 15) hx hb hts (fun _ h => w_in (inlX4 _ h)) hown hK hP 0 rfl rfl 8 (by decide) (htL _ wd_94) (fun _ h9 => h9) rfl dX4_isHopeless_1 ?_
  refine lv_iload_n hx hb dX4_isHopeless_4 rfl (lv_at hl 1 rfl) ?_
  refine x_ci [9] (va_runSN (As := [.ref (rR 8), .int p0]) (rest := []) ⟨hx, hb, hml, hown, hts⟩ (c_X6_at l D cI cL (rR 8) (bR 8) 9 p0 (by decide) _) ⟨va_cnB 2 hts (gg_ok (fun _ h => w_in h) wd_139) rfl rfl rfl (nm_OverTheShoulder_Search_102 hN) (htL _ wd_2) (by decide +kernel) ⟨Nat.le_of_ble_eq_true rfl, Nat.le_of_ble_eq_true rfl⟩, (htL _ wd_138), trivial⟩ (x_ps hN hK hP hD [9] rfl rfl) rfl rfl hl.1 rfl (lv_room (Nat.le_of_ble_eq_true rfl)) dX4_isHopeless_5 ⟨Nat.zero_le _, Nat.zero_le _⟩) hP hD hS hA rfl (fun r_1 H locs er_1 hP hS => ?_)
  refine lv_aload_n hx hb dX4_isHopeless_8 rfl (lv_at hl 0 rfl) ?_
  refine va_get (D := D) (ci := 4) (v := .int (cR 12)) (C := RX4) (T := TX4) (N := 15) hx hb hts (fun _ h => w_in (inlX4 _ h)) hown hK hP 0 rfl rfl 12 (by decide) (htL _ wd_98) (fun _ h9 => h9) rfl dX4_isHopeless_9 ?_
  refine lv_iadd hx hb dX4_isHopeless_12 ?_
  refine lv_topi (fun x_2 ex_2 => ?_)
  refine lv_istore_n (lv' := [(2, .int x_2), (0, .ref adR), (1, .int p0)]) hx hb dX4_isHopeless_13 rfl hl (by decide) rfl (fun ls hl => ?_)
  refine lv_iload_n hx hb dX4_isHopeless_14 rfl (lv_at hl 0 rfl) ?_
  refine lv_aload_n hx hb dX4_isHopeless_15 rfl (lv_at hl 1 rfl) ?_
  refine va_get (D := D) (ci := 4) (v := .int (cR 14)) (C := RX4) (T := TX4) (N := 15) hx hb hts (fun _ h => w_in (inlX4 _ h)) hown hK hP 0 rfl rfl 14 (by decide) (htL _ wd_100) (fun _ h9 => h9) rfl dX4_isHopeless_16 ?_
  refine lv_icmp_lt (tgt := 40) hx hb dX4_isHopeless_19 (by decide) (fun c_3 => ?_) (fun c_3 => ?_)
  · refine lv_iconst (v := 1) hx hb dX4_isHopeless_40 (by decide) ?_
    refine lv_goto (tgt := 45) hx hb dX4_isHopeless_41 (by decide) ?_
    have hF1 : F_X4_isHopeless bR cR p0 = 1 := (eX4_isHopeless_1 bR cR p0 r_1 x_2 er_1 ex_2 c_3)
    exact xz_ret hx hb hr hlocks hP hS rfl (congrArg (fun o : Int32 => o) hF1).symm dX4_isHopeless_45 rfl
  · refine lv_iload_n hx hb dX4_isHopeless_22 rfl (lv_at hl 0 rfl) ?_
    refine lv_aload_n hx hb dX4_isHopeless_23 rfl (lv_at hl 1 rfl) ?_
    refine va_get (D := D) (ci := 4) (v := .int (cR 14)) (C := RX4) (T := TX4) (N := 15) hx hb hts (fun _ h => w_in (inlX4 _ h)) hown hK hP 0 rfl rfl 14 (by decide) (htL _ wd_100) (fun _ h9 => h9) rfl dX4_isHopeless_24 ?_
    refine lv_icmp_ne (tgt := 44) hx hb dX4_isHopeless_27 (by decide) (fun c_4 => ?_) (fun c_4 => ?_)
    · refine lv_iconst (v := 0) hx hb dX4_isHopeless_44 (by decide) ?_
      have hF1 : F_X4_isHopeless bR cR p0 = 0 := (eX4_isHopeless_2 bR cR p0 r_1 x_2 er_1 ex_2 c_3 c_4)
      exact xz_ret hx hb hr hlocks hP hS rfl (congrArg (fun o : Int32 => o) hF1).symm dX4_isHopeless_45 rfl
    · refine lv_iload_n hx hb dX4_isHopeless_30 rfl (lv_at hl 2 rfl) ?_
      refine lv_iconst (v := 1) hx hb dX4_isHopeless_31 (by decide) ?_
      refine lv_iadd hx hb dX4_isHopeless_32 ?_
      refine lv_topi (fun x_5 ex_5 => ?_)
      refine lv_aload_n hx hb dX4_isHopeless_33 rfl (lv_at hl 1 rfl) ?_
      refine va_get (D := D) (ci := 4) (v := .int (cR 13)) (C := RX4) (T := TX4) (N := 15) hx hb hts (fun _ h => w_in (inlX4 _ h)) hown hK hP 0 rfl rfl 13 (by decide) (htL _ wd_99) (fun _ h9 => h9) rfl dX4_isHopeless_34 ?_
      refine lv_icmp_lt (tgt := 44) hx hb dX4_isHopeless_37 (by decide) (fun c_6 => ?_) (fun c_6 => ?_)
      · refine lv_iconst (v := 0) hx hb dX4_isHopeless_44 (by decide) ?_
        have hF1 : F_X4_isHopeless bR cR p0 = 0 := (eX4_isHopeless_3 bR cR p0 r_1 x_2 x_5 er_1 ex_2 ex_5 c_3 c_4 c_6)
        exact xz_ret hx hb hr hlocks hP hS rfl (congrArg (fun o : Int32 => o) hF1).symm dX4_isHopeless_45 rfl
      · refine lv_iconst (v := 1) hx hb dX4_isHopeless_40 (by decide) ?_
        refine lv_goto (tgt := 45) hx hb dX4_isHopeless_41 (by decide) ?_
        have hF1 : F_X4_isHopeless bR cR p0 = 1 := (eX4_isHopeless_4 bR cR p0 r_1 x_2 x_5 er_1 ex_2 ex_5 c_3 c_4 c_6)
        exact xz_ret hx hb hr hlocks hP hS rfl (congrArg (fun o : Int32 => o) hF1).symm dX4_isHopeless_45 rfl

noncomputable def F_X4_prepareLines_L2 (bR : Nat → Nat → Int32) (cR : Nat → Int32) (qS : Nat → Nat → Int32) (nS : Int32) (fK : Nat → Int32) : Nat → (Nat → Nat → Int32) → Int32 → Nat → Nat → Int32
  | 0, _, _ => default
  | n + 1, bRa, v3a =>
  if nS ≤ v3a then
  (bRa)
  else
  (let r_2 : Int32 := (F_X5_costOf qS nS v3a (fK 1))
  let o_3 : Nat → Int32 := (F_X6_put (bRa 0) 8 v3a r_2)
  let r_4 : Int32 := (F_X5_worthOf qS nS v3a)
  let o_5 : Nat → Int32 := (F_X6_put (bRa 1) 8 v3a r_4)
  let x_6 : Int32 := v3a + 1
  F_X4_prepareLines_L2 bR cR qS nS fK n (va_up (va_up bRa 0 o_3) 1 o_5) x_6)
noncomputable def F_X4_prepareLines (bR : Nat → Nat → Int32) (cR : Nat → Int32) (qS : Nat → Nat → Int32) (nS : Int32) (fK : Nat → Int32) : Nat → Nat → Int32 :=
  F_X4_prepareLines_L2 bR cR qS nS fK (((nS.toInt - (0 : Int32).toInt).toNat) + 1) bR 0
set_option maxRecDepth 100000 in
theorem eX4_prepareLines_1 (bR : Nat → Nat → Int32) (cR : Nat → Int32) (qS : Nat → Nat → Int32) (nS : Int32) (fK : Nat → Int32) (n : Nat) (bRa : Nat → Nat → Int32) (v3a : Int32) (c_1 : nS ≤ v3a) : F_X4_prepareLines_L2 bR cR qS nS fK (n + 1) bRa v3a = bRa := by exact (if_pos c_1).trans (rfl)
set_option maxRecDepth 100000 in
theorem eX4_prepareLines_2 (bR : Nat → Nat → Int32) (cR : Nat → Int32) (qS : Nat → Nat → Int32) (nS : Int32) (fK : Nat → Int32) (n : Nat) (bRa : Nat → Nat → Int32) (v3a : Int32) (r_2 : Int32) (o_3 : Nat → Int32) (r_4 : Int32) (o_5 : Nat → Int32) (x_6 : Int32) (er_2 : r_2 = (F_X5_costOf qS nS v3a (fK 1))) (eo_3 : o_3 = (F_X6_put (bRa 0) 8 v3a r_2)) (er_4 : r_4 = (F_X5_worthOf qS nS v3a)) (eo_5 : o_5 = (F_X6_put (bRa 1) 8 v3a r_4)) (ex_6 : x_6 = v3a + 1) (c_1 : ¬ (nS ≤ v3a)) : F_X4_prepareLines_L2 bR cR qS nS fK (n + 1) bRa v3a = F_X4_prepareLines_L2 bR cR qS nS fK n (va_up (va_up bRa 0 o_3) 1 o_5) x_6 := by subst er_2 eo_3 er_4 eo_5 ex_6; exact (if_neg c_1).trans (rfl)
set_option maxHeartbeats 4000000 in
set_option maxRecDepth 100000 in
theorem c_X4_prepareLines (l : Launch) (D : va_G) (cI cL : ClassId)   (adR : Nat) (rR : Nat → Nat) (adS : Nat) (rS : Nat → Nat) (adK : Nat) (bR : Nat → Nat → Int32) (cR : Nat → Int32) (qS : Nat → Nat → Int32) (nS : Int32) (fK : Nat → Int32)  : Xv l yX4_prepareLines (wm yX4_prepareLines cX4_prepareLines 4 none) (xR (4) (87)) D (tyA cI cL) [.ref adR, .ref adS, .ref adK] [(adR, .inr (4, [.ref (rR 0), .ref (rR 1), .ref (rR 2), .ref (rR 3), .ref (rR 4), .ref (rR 5), .ref (rR 6), .ref (rR 7), .ref (rR 8), .ref (rR 9), .ref (rR 10), .int (cR 11), .int (cR 12), .int (cR 13), .int (cR 14)])), ((rR 0), .inl (cI, 8, .inl (bR 0))), ((rR 1), .inl (cI, 8, .inl (bR 1))), ((rR 2), .inl (cI, 8, .inl (bR 2))), ((rR 3), .inl (cI, 4, .inl (bR 3))), ((rR 4), .inl (cI, 9, .inl (bR 4))), ((rR 5), .inl (cI, 9, .inl (bR 5))), ((rR 6), .inl (cI, 9, .inl (bR 6))), ((rR 7), .inl (cI, 9, .inl (bR 7))), ((rR 8), .inl (cI, 9, .inl (bR 8))), ((rR 9), .inl (cI, 8, .inl (bR 9))), ((rR 10), .inl (cI, 8, .inl (bR 10))), (adS, .inr (5, [.ref (rS 0), .ref (rS 1), .ref (rS 2), .ref (rS 3), .int nS])), ((rS 0), .inl (cI, 8, .inl (qS 0))), ((rS 1), .inl (cI, 8, .inl (qS 1))), ((rS 2), .inl (cI, 8, .inl (qS 2))), ((rS 3), .inl (cI, 8, .inl (qS 3))), (adK, .inr (2, [.int (fK 0), .int (fK 1), .int (fK 2), .int (fK 3), .int (fK 4), .int (fK 5), .int (fK 6), .int (fK 7)]))] [(adR, .inr (4, [.ref (rR 0), .ref (rR 1), .ref (rR 2), .ref (rR 3), .ref (rR 4), .ref (rR 5), .ref (rR 6), .ref (rR 7), .ref (rR 8), .ref (rR 9), .ref (rR 10), .int (cR 11), .int (cR 12), .int (cR 13), .int (cR 14)])), ((rR 0), .inl (cI, 8, .inl ((F_X4_prepareLines bR cR qS nS fK) 0))), ((rR 1), .inl (cI, 8, .inl ((F_X4_prepareLines bR cR qS nS fK) 1))), ((rR 2), .inl (cI, 8, .inl ((F_X4_prepareLines bR cR qS nS fK) 2))), ((rR 3), .inl (cI, 4, .inl ((F_X4_prepareLines bR cR qS nS fK) 3))), ((rR 4), .inl (cI, 9, .inl ((F_X4_prepareLines bR cR qS nS fK) 4))), ((rR 5), .inl (cI, 9, .inl ((F_X4_prepareLines bR cR qS nS fK) 5))), ((rR 6), .inl (cI, 9, .inl ((F_X4_prepareLines bR cR qS nS fK) 6))), ((rR 7), .inl (cI, 9, .inl ((F_X4_prepareLines bR cR qS nS fK) 7))), ((rR 8), .inl (cI, 9, .inl ((F_X4_prepareLines bR cR qS nS fK) 8))), ((rR 9), .inl (cI, 8, .inl ((F_X4_prepareLines bR cR qS nS fK) 9))), ((rR 10), .inl (cI, 8, .inl ((F_X4_prepareLines bR cR qS nS fK) 10))), (adS, .inr (5, [.ref (rS 0), .ref (rS 1), .ref (rS 2), .ref (rS 3), .int nS])), ((rS 0), .inl (cI, 8, .inl (qS 0))), ((rS 1), .inl (cI, 8, .inl (qS 1))), ((rS 2), .inl (cI, 8, .inl (qS 2))), ((rS 3), .inl (cI, 8, .inl (qS 3))), (adK, .inr (2, [.int (fK 0), .int (fK 1), .int (fK 2), .int (fK 3), .int (fK 4), .int (fK 5), .int (fK 6), .int (fK 7)]))] := by
  intro sz
  refine x_in (cc := cX4_prepareLines) (maxL := 4) (ret := none) (by decide) rfl (Nat.le_of_ble_eq_true rfl) (fun p e s m below meth c A ls hfix hr hlocks hN hK hP hAe hD hA hS hl => ?_)
  obtain ⟨hx, hb, hml, hown, hts⟩ := hfix
  rw [← hAe]
  clear hAe
  have hown : s.vm.findClass RX4 = some m.cls := hown
  have htL : ∀ w ∈ wsL_law, w.before ([.ref adR, .ref adS, .ref adK] : List Value).toArray s = true := fun w h => hts w (List.mem_cons_of_mem _ h)
  have hl : lv_has ls 4 [(0, .ref adR), (1, .ref adS), (2, .ref adK)] := hl
  refine lv_iconst (v := 0) hx hb dX4_prepareLines_0 (by decide) ?_
  refine lv_istore_n (lv' := [(3, .int 0), (0, .ref adR), (1, .ref adS), (2, .ref adK)]) hx hb dX4_prepareLines_1 rfl hl (by decide) rfl (fun ls hl => ?_)
  have loop : ∀ (n : Nat) (bRa : Nat → Nat → Int32) (v3a : Int32) (H : Heap) (locs : List Loc) (ls : Array Slot), (nS.toInt - v3a.toInt).toNat < n → F_X4_prepareLines bR cR qS nS fK = F_X4_prepareLines_L2 bR cR qS nS fK n bRa v3a → va_P D vwCl [(adR, .inr (4, [.ref (rR 0), .ref (rR 1), .ref (rR 2), .ref (rR 3), .ref (rR 4), .ref (rR 5), .ref (rR 6), .ref (rR 7), .ref (rR 8), .ref (rR 9), .ref (rR 10), .int (cR 11), .int (cR 12), .int (cR 13), .int (cR 14)])), ((rR 0), .inl (cI, 8, .inl (bRa 0))), ((rR 1), .inl (cI, 8, .inl (bRa 1))), ((rR 2), .inl (cI, 8, .inl (bRa 2))), ((rR 3), .inl (cI, 4, .inl (bRa 3))), ((rR 4), .inl (cI, 9, .inl (bRa 4))), ((rR 5), .inl (cI, 9, .inl (bRa 5))), ((rR 6), .inl (cI, 9, .inl (bRa 6))), ((rR 7), .inl (cI, 9, .inl (bRa 7))), ((rR 8), .inl (cI, 9, .inl (bRa 8))), ((rR 9), .inl (cI, 8, .inl (bRa 9))), ((rR 10), .inl (cI, 8, .inl (bRa 10))), (adS, .inr (5, [.ref (rS 0), .ref (rS 1), .ref (rS 2), .ref (rS 3), .int nS])), ((rS 0), .inl (cI, 8, .inl (qS 0))), ((rS 1), .inl (cI, 8, .inl (qS 1))), ((rS 2), .inl (cI, 8, .inl (qS 2))), ((rS 3), .inl (cI, 8, .inl (qS 3))), (adK, .inr (2, [.int (fK 0), .int (fK 1), .int (fK 2), .int (fK 3), .int (fK 4), .int (fK 5), .int (fK 6), .int (fK 7)]))] H → va_D A [(adR, .inr (4, [.ref (rR 0), .ref (rR 1), .ref (rR 2), .ref (rR 3), .ref (rR 4), .ref (rR 5), .ref (rR 6), .ref (rR 7), .ref (rR 8), .ref (rR 9), .ref (rR 10), .int (cR 11), .int (cR 12), .int (cR 13), .int (cR 14)])), ((rR 0), .inl (cI, 8, .inl (bRa 0))), ((rR 1), .inl (cI, 8, .inl (bRa 1))), ((rR 2), .inl (cI, 8, .inl (bRa 2))), ((rR 3), .inl (cI, 4, .inl (bRa 3))), ((rR 4), .inl (cI, 9, .inl (bRa 4))), ((rR 5), .inl (cI, 9, .inl (bRa 5))), ((rR 6), .inl (cI, 9, .inl (bRa 6))), ((rR 7), .inl (cI, 9, .inl (bRa 7))), ((rR 8), .inl (cI, 9, .inl (bRa 8))), ((rR 9), .inl (cI, 8, .inl (bRa 9))), ((rR 10), .inl (cI, 8, .inl (bRa 10))), (adS, .inr (5, [.ref (rS 0), .ref (rS 1), .ref (rS 2), .ref (rS 3), .int nS])), ((rS 0), .inl (cI, 8, .inl (qS 0))), ((rS 1), .inl (cI, 8, .inl (qS 1))), ((rS 2), .inl (cI, 8, .inl (qS 2))), ((rS 3), .inl (cI, 8, .inl (qS 3))), (adK, .inr (2, [.int (fK 0), .int (fK 1), .int (fK 2), .int (fK 3), .int (fK 4), .int (fK 5), .int (fK 6), .int (fK 7)]))] → va_S A s.heap H locs → lv_has ls 4 [(3, .int v3a), (0, .ref adR), (1, .ref adS), (2, .ref adK)] → W p l e (xR (4) (87)) s m ([.ref adR, .ref adS, .ref adK] : List Value).toArray below meth c H locs 0 0 (MQ below (va_Qv (fun (_ : Unit) => True) (xE D [(adR, .inr (4, [.ref (rR 0), .ref (rR 1), .ref (rR 2), .ref (rR 3), .ref (rR 4), .ref (rR 5), .ref (rR 6), .ref (rR 7), .ref (rR 8), .ref (rR 9), .ref (rR 10), .int (cR 11), .int (cR 12), .int (cR 13), .int (cR 14)])), ((rR 0), .inl (cI, 8, .inl ((F_X4_prepareLines bR cR qS nS fK) 0))), ((rR 1), .inl (cI, 8, .inl ((F_X4_prepareLines bR cR qS nS fK) 1))), ((rR 2), .inl (cI, 8, .inl ((F_X4_prepareLines bR cR qS nS fK) 2))), ((rR 3), .inl (cI, 4, .inl ((F_X4_prepareLines bR cR qS nS fK) 3))), ((rR 4), .inl (cI, 9, .inl ((F_X4_prepareLines bR cR qS nS fK) 4))), ((rR 5), .inl (cI, 9, .inl ((F_X4_prepareLines bR cR qS nS fK) 5))), ((rR 6), .inl (cI, 9, .inl ((F_X4_prepareLines bR cR qS nS fK) 6))), ((rR 7), .inl (cI, 9, .inl ((F_X4_prepareLines bR cR qS nS fK) 7))), ((rR 8), .inl (cI, 9, .inl ((F_X4_prepareLines bR cR qS nS fK) 8))), ((rR 9), .inl (cI, 8, .inl ((F_X4_prepareLines bR cR qS nS fK) 9))), ((rR 10), .inl (cI, 8, .inl ((F_X4_prepareLines bR cR qS nS fK) 10))), (adS, .inr (5, [.ref (rS 0), .ref (rS 1), .ref (rS 2), .ref (rS 3), .int nS])), ((rS 0), .inl (cI, 8, .inl (qS 0))), ((rS 1), .inl (cI, 8, .inl (qS 1))), ((rS 2), .inl (cI, 8, .inl (qS 2))), ((rS 3), .inl (cI, 8, .inl (qS 3))), (adK, .inr (2, [.int (fK 0), .int (fK 1), .int (fK 2), .int (fK 3), .int (fK 4), .int (fK 5), .int (fK 6), .int (fK 7)]))]) A) ([.ref adR, .ref adS, .ref adK] : List Value).toArray s 0 0 A) (F0 m 2 ls []) := by
    intro n
    induction n with
    | zero => intro bRa v3a H locs ls hm; exact absurd hm (Nat.not_lt_zero _)
    | succ n ih =>
      intro bRa v3a H locs ls hm hF hP hD hS hl
      refine lv_iload_n hx hb dX4_prepareLines_2 rfl (lv_at hl 0 rfl) ?_
      refine lv_aload_n hx hb dX4_prepareLines_3 rfl (lv_at hl 2 rfl) ?_
      refine va_getN (D := D) (ci := 5) (v := .int nS) (C := RX5) (T := TX5) (N := 5) hx hb hts (fun _ h => w_in (inlX5 _ h)) hown hK hP 12 rfl rfl 4 (by decide) (nf_OverTheShoulder_Search_114 hN) (fun _ h9 => h9) rfl dX4_prepareLines_4 ?_
      refine lv_icmp_ge (tgt := 46) hx hb dX4_prepareLines_7 (by decide) (fun c_1 => ?_) (fun c_1 => ?_)
      · have hF1 : F_X4_prepareLines bR cR qS nS fK = bRa := hF.trans (eX4_prepareLines_1 bR cR qS nS fK n bRa v3a c_1)
        exact xv_ret hx hb hr hlocks hP hS (congrArg (fun o : Nat → Nat → Int32 => ([(adR, .inr (4, [.ref (rR 0), .ref (rR 1), .ref (rR 2), .ref (rR 3), .ref (rR 4), .ref (rR 5), .ref (rR 6), .ref (rR 7), .ref (rR 8), .ref (rR 9), .ref (rR 10), .int (cR 11), .int (cR 12), .int (cR 13), .int (cR 14)])), ((rR 0), .inl (cI, 8, .inl (o 0))), ((rR 1), .inl (cI, 8, .inl (o 1))), ((rR 2), .inl (cI, 8, .inl (o 2))), ((rR 3), .inl (cI, 4, .inl (o 3))), ((rR 4), .inl (cI, 9, .inl (o 4))), ((rR 5), .inl (cI, 9, .inl (o 5))), ((rR 6), .inl (cI, 9, .inl (o 6))), ((rR 7), .inl (cI, 9, .inl (o 7))), ((rR 8), .inl (cI, 9, .inl (o 8))), ((rR 9), .inl (cI, 8, .inl (o 9))), ((rR 10), .inl (cI, 8, .inl (o 10))), (adS, .inr (5, [.ref (rS 0), .ref (rS 1), .ref (rS 2), .ref (rS 3), .int nS])), ((rS 0), .inl (cI, 8, .inl (qS 0))), ((rS 1), .inl (cI, 8, .inl (qS 1))), ((rS 2), .inl (cI, 8, .inl (qS 2))), ((rS 3), .inl (cI, 8, .inl (qS 3))), (adK, .inr (2, [.int (fK 0), .int (fK 1), .int (fK 2), .int (fK 3), .int (fK 4), .int (fK 5), .int (fK 6), .int (fK 7)]))] : va_W)) hF1).symm dX4_prepareLines_46
      · refine lv_aload_n hx hb dX4_prepareLines_10 rfl (lv_at hl 1 rfl) ?_
        refine va_get (D := D) (ci := 4) (v := .ref (rR 0)) (C := RX4) (T := TX4) (N := 15) hx hb hts (fun _ h => w_in (inlX4 _ h)) hown hK hP 0 rfl rfl 0 (by decide) (htL _ wd_86) (fun _ h9 => h9) rfl dX4_prepareLines_11 ?_
        refine lv_iload_n hx hb dX4_prepareLines_14 rfl (lv_at hl 0 rfl) ?_
        refine lv_aload_n hx hb dX4_prepareLines_15 rfl (lv_at hl 2 rfl) ?_
        refine lv_iload_n hx hb dX4_prepareLines_16 rfl (lv_at hl 0 rfl) ?_
        refine lv_aload_n hx hb dX4_prepareLines_17 rfl (lv_at hl 3 rfl) ?_
        refine va_getN (D := D) (ci := 2) (v := .int (fK 1)) (C := RX2) (T := TX2) (N := 8) hx hb hts (fun _ h => w_in (inlX2 _ h)) hown hK hP 17 rfl rfl 1 (by decide) (nf_OverTheShoulder_Search_117 hN) (fun _ h9 => h9) rfl dX4_prepareLines_18 ?_
        refine x_ci [12, 13, 14, 15, 16] (va_runV (As := [.int v3a, .int (fK 1)]) (rest := [.int v3a, .ref (rR 0)]) ⟨hx, hb, hml, hown, hts⟩ (c_X5_costOf l D cI cL adS rS qS nS v3a (fK 1) _) (cwV 2 hts (gv_ok (fun _ h => w_in h) wd_423 wd_582 wd_421 wd_422 wd_44) rfl rfl rfl (by decide +kernel) ⟨Nat.le_of_ble_eq_true rfl, Nat.le_of_ble_eq_true rfl⟩) (x_pv hN hK hP hD [12, 13, 14, 15, 16] rfl rfl (ci := 5) (q0 := 12) rfl rfl) rfl rfl hl.1 rfl (lv_room (Nat.le_of_ble_eq_true rfl)) dX4_prepareLines_21 ⟨Nat.zero_le _, Nat.zero_le _⟩) hP hD hS hA rfl (fun r_2 H locs er_2 hP hS => ?_)
        refine x_wv (o0 := (F_X6_put (bRa 0) 8 v3a r_2)) (fun o : Nat → Int32 => ([((rR 0), .inl (cI, 8, .inl o))] : va_W)) [1] (va_runSN (As := [.ref (rR 0), .int v3a, .int r_2]) (rest := []) ⟨hx, hb, hml, hown, hts⟩ (c_X6_put l D cI cL (rR 0) (bRa 0) 8 v3a r_2 (by decide) _) ⟨va_cnB 3 hts (gg_ok (fun _ h => w_in h) wd_142) rfl rfl rfl (nm_OverTheShoulder_Search_83 hN) (htL _ wd_2) (by decide +kernel) ⟨Nat.le_of_ble_eq_true rfl, Nat.le_of_ble_eq_true rfl⟩, (htL _ wd_141), trivial⟩ (x_ps hN hK hP hD [1] rfl rfl) rfl rfl hl.1 rfl (lv_room (Nat.le_of_ble_eq_true rfl)) dX4_prepareLines_24 ⟨Nat.zero_le _, Nat.zero_le _⟩) hP hD hS hA rfl (fun _ => rfl) (fun o_3 H locs eo_3 hP hD hS => ?_)
        have hP : va_P D vwCl [(adR, .inr (4, [.ref (rR 0), .ref (rR 1), .ref (rR 2), .ref (rR 3), .ref (rR 4), .ref (rR 5), .ref (rR 6), .ref (rR 7), .ref (rR 8), .ref (rR 9), .ref (rR 10), .int (cR 11), .int (cR 12), .int (cR 13), .int (cR 14)])), ((rR 0), .inl (cI, 8, .inl o_3)), ((rR 1), .inl (cI, 8, .inl (bRa 1))), ((rR 2), .inl (cI, 8, .inl (bRa 2))), ((rR 3), .inl (cI, 4, .inl (bRa 3))), ((rR 4), .inl (cI, 9, .inl (bRa 4))), ((rR 5), .inl (cI, 9, .inl (bRa 5))), ((rR 6), .inl (cI, 9, .inl (bRa 6))), ((rR 7), .inl (cI, 9, .inl (bRa 7))), ((rR 8), .inl (cI, 9, .inl (bRa 8))), ((rR 9), .inl (cI, 8, .inl (bRa 9))), ((rR 10), .inl (cI, 8, .inl (bRa 10))), (adS, .inr (5, [.ref (rS 0), .ref (rS 1), .ref (rS 2), .ref (rS 3), .int nS])), ((rS 0), .inl (cI, 8, .inl (qS 0))), ((rS 1), .inl (cI, 8, .inl (qS 1))), ((rS 2), .inl (cI, 8, .inl (qS 2))), ((rS 3), .inl (cI, 8, .inl (qS 3))), (adK, .inr (2, [.int (fK 0), .int (fK 1), .int (fK 2), .int (fK 3), .int (fK 4), .int (fK 5), .int (fK 6), .int (fK 7)]))] _ := hP
        have hD : va_D A [(adR, .inr (4, [.ref (rR 0), .ref (rR 1), .ref (rR 2), .ref (rR 3), .ref (rR 4), .ref (rR 5), .ref (rR 6), .ref (rR 7), .ref (rR 8), .ref (rR 9), .ref (rR 10), .int (cR 11), .int (cR 12), .int (cR 13), .int (cR 14)])), ((rR 0), .inl (cI, 8, .inl o_3)), ((rR 1), .inl (cI, 8, .inl (bRa 1))), ((rR 2), .inl (cI, 8, .inl (bRa 2))), ((rR 3), .inl (cI, 4, .inl (bRa 3))), ((rR 4), .inl (cI, 9, .inl (bRa 4))), ((rR 5), .inl (cI, 9, .inl (bRa 5))), ((rR 6), .inl (cI, 9, .inl (bRa 6))), ((rR 7), .inl (cI, 9, .inl (bRa 7))), ((rR 8), .inl (cI, 9, .inl (bRa 8))), ((rR 9), .inl (cI, 8, .inl (bRa 9))), ((rR 10), .inl (cI, 8, .inl (bRa 10))), (adS, .inr (5, [.ref (rS 0), .ref (rS 1), .ref (rS 2), .ref (rS 3), .int nS])), ((rS 0), .inl (cI, 8, .inl (qS 0))), ((rS 1), .inl (cI, 8, .inl (qS 1))), ((rS 2), .inl (cI, 8, .inl (qS 2))), ((rS 3), .inl (cI, 8, .inl (qS 3))), (adK, .inr (2, [.int (fK 0), .int (fK 1), .int (fK 2), .int (fK 3), .int (fK 4), .int (fK 5), .int (fK 6), .int (fK 7)]))] := hD
        refine lv_aload_n hx hb dX4_prepareLines_27 rfl (lv_at hl 1 rfl) ?_
        refine va_get (D := D) (ci := 4) (v := .ref (rR 1)) (C := RX4) (T := TX4) (N := 15) hx hb hts (fun _ h => w_in (inlX4 _ h)) hown hK hP 0 rfl rfl 1 (by decide) (htL _ wd_87) (fun _ h9 => h9) rfl dX4_prepareLines_28 ?_
        refine lv_iload_n hx hb dX4_prepareLines_31 rfl (lv_at hl 0 rfl) ?_
        refine lv_aload_n hx hb dX4_prepareLines_32 rfl (lv_at hl 2 rfl) ?_
        refine lv_iload_n hx hb dX4_prepareLines_33 rfl (lv_at hl 0 rfl) ?_
        refine x_ci [12, 13, 14, 15, 16] (va_runV (As := [.int v3a]) (rest := [.int v3a, .ref (rR 1)]) ⟨hx, hb, hml, hown, hts⟩ (c_X5_worthOf l D cI cL adS rS qS nS v3a _) (cwV 1 hts (gv_ok (fun _ h => w_in h) wd_338 wd_583 wd_336 wd_337 wd_44) rfl rfl rfl (by decide +kernel) ⟨Nat.le_of_ble_eq_true rfl, Nat.le_of_ble_eq_true rfl⟩) (x_pv hN hK hP hD [12, 13, 14, 15, 16] rfl rfl (ci := 5) (q0 := 12) rfl rfl) rfl rfl hl.1 rfl (lv_room (Nat.le_of_ble_eq_true rfl)) dX4_prepareLines_34 ⟨Nat.zero_le _, Nat.zero_le _⟩) hP hD hS hA rfl (fun r_4 H locs er_4 hP hS => ?_)
        refine x_wv (o0 := (F_X6_put (bRa 1) 8 v3a r_4)) (fun o : Nat → Int32 => ([((rR 1), .inl (cI, 8, .inl o))] : va_W)) [2] (va_runSN (As := [.ref (rR 1), .int v3a, .int r_4]) (rest := []) ⟨hx, hb, hml, hown, hts⟩ (c_X6_put l D cI cL (rR 1) (bRa 1) 8 v3a r_4 (by decide) _) ⟨va_cnB 3 hts (gg_ok (fun _ h => w_in h) wd_142) rfl rfl rfl (nm_OverTheShoulder_Search_83 hN) (htL _ wd_2) (by decide +kernel) ⟨Nat.le_of_ble_eq_true rfl, Nat.le_of_ble_eq_true rfl⟩, (htL _ wd_141), trivial⟩ (x_ps hN hK hP hD [2] rfl rfl) rfl rfl hl.1 rfl (lv_room (Nat.le_of_ble_eq_true rfl)) dX4_prepareLines_37 ⟨Nat.zero_le _, Nat.zero_le _⟩) hP hD hS hA rfl (fun _ => rfl) (fun o_5 H locs eo_5 hP hD hS => ?_)
        have hP : va_P D vwCl [(adR, .inr (4, [.ref (rR 0), .ref (rR 1), .ref (rR 2), .ref (rR 3), .ref (rR 4), .ref (rR 5), .ref (rR 6), .ref (rR 7), .ref (rR 8), .ref (rR 9), .ref (rR 10), .int (cR 11), .int (cR 12), .int (cR 13), .int (cR 14)])), ((rR 0), .inl (cI, 8, .inl o_3)), ((rR 1), .inl (cI, 8, .inl o_5)), ((rR 2), .inl (cI, 8, .inl (bRa 2))), ((rR 3), .inl (cI, 4, .inl (bRa 3))), ((rR 4), .inl (cI, 9, .inl (bRa 4))), ((rR 5), .inl (cI, 9, .inl (bRa 5))), ((rR 6), .inl (cI, 9, .inl (bRa 6))), ((rR 7), .inl (cI, 9, .inl (bRa 7))), ((rR 8), .inl (cI, 9, .inl (bRa 8))), ((rR 9), .inl (cI, 8, .inl (bRa 9))), ((rR 10), .inl (cI, 8, .inl (bRa 10))), (adS, .inr (5, [.ref (rS 0), .ref (rS 1), .ref (rS 2), .ref (rS 3), .int nS])), ((rS 0), .inl (cI, 8, .inl (qS 0))), ((rS 1), .inl (cI, 8, .inl (qS 1))), ((rS 2), .inl (cI, 8, .inl (qS 2))), ((rS 3), .inl (cI, 8, .inl (qS 3))), (adK, .inr (2, [.int (fK 0), .int (fK 1), .int (fK 2), .int (fK 3), .int (fK 4), .int (fK 5), .int (fK 6), .int (fK 7)]))] _ := hP
        have hD : va_D A [(adR, .inr (4, [.ref (rR 0), .ref (rR 1), .ref (rR 2), .ref (rR 3), .ref (rR 4), .ref (rR 5), .ref (rR 6), .ref (rR 7), .ref (rR 8), .ref (rR 9), .ref (rR 10), .int (cR 11), .int (cR 12), .int (cR 13), .int (cR 14)])), ((rR 0), .inl (cI, 8, .inl o_3)), ((rR 1), .inl (cI, 8, .inl o_5)), ((rR 2), .inl (cI, 8, .inl (bRa 2))), ((rR 3), .inl (cI, 4, .inl (bRa 3))), ((rR 4), .inl (cI, 9, .inl (bRa 4))), ((rR 5), .inl (cI, 9, .inl (bRa 5))), ((rR 6), .inl (cI, 9, .inl (bRa 6))), ((rR 7), .inl (cI, 9, .inl (bRa 7))), ((rR 8), .inl (cI, 9, .inl (bRa 8))), ((rR 9), .inl (cI, 8, .inl (bRa 9))), ((rR 10), .inl (cI, 8, .inl (bRa 10))), (adS, .inr (5, [.ref (rS 0), .ref (rS 1), .ref (rS 2), .ref (rS 3), .int nS])), ((rS 0), .inl (cI, 8, .inl (qS 0))), ((rS 1), .inl (cI, 8, .inl (qS 1))), ((rS 2), .inl (cI, 8, .inl (qS 2))), ((rS 3), .inl (cI, 8, .inl (qS 3))), (adK, .inr (2, [.int (fK 0), .int (fK 1), .int (fK 2), .int (fK 3), .int (fK 4), .int (fK 5), .int (fK 6), .int (fK 7)]))] := hD
        obtain ⟨x_6, ex_6⟩ : ∃ y : Int32, y = v3a + 1 := ⟨_, rfl⟩
        refine lv_iinc (v := x_6) (lv' := [(3, .int x_6), (0, .ref adR), (1, .ref adS), (2, .ref adK)]) hx hb dX4_prepareLines_40 hl (k := 0) rfl (by rw [ex_6]; rfl) (by decide) rfl (fun ls hl => ?_)
        refine lv_goto (tgt := 2) hx hb dX4_prepareLines_43 (by decide) ?_
        exact ih (va_up (va_up bRa 0 o_3) 1 o_5) x_6 _ _ _ (by subst er_2 eo_3 er_4 eo_5 ex_6; first | exact x_up (by assumption) hm | exact x_up' (by assumption) hm | omega) (hF.trans (eX4_prepareLines_2 bR cR qS nS fK n bRa v3a r_2 o_3 r_4 o_5 x_6 er_2 eo_3 er_4 eo_5 ex_6 c_1)) hP hD hS (lv_sub hl [0, 1, 2, 3] rfl)
  exact loop (((nS.toInt - (0 : Int32).toInt).toNat) + 1) bR 0 _ _ _ (Nat.lt_succ_self _) rfl hP hD hS hl
