noncomputable def F_X0_become (gB : Nat → Int32) (gT : Nat → Int32) : Nat → Int32 :=
  (upd (upd (upd (upd (upd gB 0 (gT 0)) 1 (gT 1)) 2 (gT 2)) 3 (gT 3)) 4 (gT 4))
set_option maxHeartbeats 4000000 in
set_option maxRecDepth 100000 in
theorem c_X0_become (l : Launch) (D : va_G) (cI cL : ClassId)   (adB : Nat) (adT : Nat) (gB : Nat → Int32) (gT : Nat → Int32)  : Xv l yX0_become (wm yX0_become cX0_become 2 none) (xR (0) (0)) D (tyA cI cL) [.ref adB, .ref adT] [(adB, .inr (0, [.int (gB 0), .int (gB 1), .int (gB 2), .int (gB 3), .int (gB 4)])), (adT, .inr (0, [.int (gT 0), .int (gT 1), .int (gT 2), .int (gT 3), .int (gT 4)]))] [(adB, .inr (0, [.int ((F_X0_become gB gT) 0), .int ((F_X0_become gB gT) 1), .int ((F_X0_become gB gT) 2), .int ((F_X0_become gB gT) 3), .int ((F_X0_become gB gT) 4)])), (adT, .inr (0, [.int (gT 0), .int (gT 1), .int (gT 2), .int (gT 3), .int (gT 4)]))] := by
  intro sz
  refine x_in (cc := cX0_become) (maxL := 2) (ret := none) (by decide) rfl (Nat.le_of_ble_eq_true rfl) (fun p e s m below meth c A ls hfix hr hlocks hN hK hP hAe hD hA hS hl => ?_)
  obtain ⟨hx, hb, hml, hown, hts⟩ := hfix
  rw [← hAe]
  clear hAe
  have hown : s.vm.findClass RX0 = some m.cls := hown
  have htL : ∀ w ∈ wsL_law, w.before ([.ref adB, .ref adT] : List Value).toArray s = true := fun w h => hts w (List.mem_cons_of_mem _ h)
  have hl : lv_has ls 2 [(0, .ref adB), (1, .ref adT)] := hl
  refine lv_aload_n hx hb dX0_become_0 rfl (lv_at hl 0 rfl) ?_
  refine lv_aload_n hx hb dX0_become_1 rfl (lv_at hl 1 rfl) ?_
  refine va_get (D := D) (ci := 0) (v := .int (gT 0)) (C := RX0) (T := TX0) (N := 5) hx hb hts (fun _ h => w_in (inlX0 _ h)) hown hK hP 1 rfl rfl 0 (by decide) (htL _ wd_62) (fun _ h9 => h9) rfl dX0_become_2 ?_
  refine va_put (D := D) (ci := 0) (v := .int (gT 0)) (ty := .int) (C := RX0) (T := TX0) (N := 5) hx hb hts (fun _ h => w_in (inlX0 _ h)) tyX0 tyX0_ok nmX0 hown hK hP hD hS 0 rfl rfl 0 (by decide) (htL _ wd_62) (fun _ h9 => h9) rfl (by decide +kernel) rfl rfl (Nat.le_of_ble_eq_true rfl) dX0_become_5 (fun H locs hP hD hS => ?_)
  have hP : va_P D vwCl [(adB, .inr (0, [.int (gT 0), .int (gB 1), .int (gB 2), .int (gB 3), .int (gB 4)])), (adT, .inr (0, [.int (gT 0), .int (gT 1), .int (gT 2), .int (gT 3), .int (gT 4)]))] _ := hP
  have hD : va_D A [(adB, .inr (0, [.int (gT 0), .int (gB 1), .int (gB 2), .int (gB 3), .int (gB 4)])), (adT, .inr (0, [.int (gT 0), .int (gT 1), .int (gT 2), .int (gT 3), .int (gT 4)]))] := hD
  refine lv_aload_n hx hb dX0_become_8 rfl (lv_at hl 0 rfl) ?_
  refine lv_aload_n hx hb dX0_become_9 rfl (lv_at hl 1 rfl) ?_
  refine va_get (D := D) (ci := 0) (v := .int (gT 1)) (C := RX0) (T := TX0) (N := 5) hx hb hts (fun _ h => w_in (inlX0 _ h)) hown hK hP 1 rfl rfl 1 (by decide) (htL _ wd_63) (fun _ h9 => h9) rfl dX0_become_10 ?_
  refine va_put (D := D) (ci := 0) (v := .int (gT 1)) (ty := .int) (C := RX0) (T := TX0) (N := 5) hx hb hts (fun _ h => w_in (inlX0 _ h)) tyX0 tyX0_ok nmX0 hown hK hP hD hS 0 rfl rfl 1 (by decide) (htL _ wd_63) (fun _ h9 => h9) rfl (by decide +kernel) rfl rfl (Nat.le_of_ble_eq_true rfl) dX0_become_13 (fun H locs hP hD hS => ?_)
  have hP : va_P D vwCl [(adB, .inr (0, [.int (gT 0), .int (gT 1), .int (gB 2), .int (gB 3), .int (gB 4)])), (adT, .inr (0, [.int (gT 0), .int (gT 1), .int (gT 2), .int (gT 3), .int (gT 4)]))] _ := hP
  have hD : va_D A [(adB, .inr (0, [.int (gT 0), .int (gT 1), .int (gB 2), .int (gB 3), .int (gB 4)])), (adT, .inr (0, [.int (gT 0), .int (gT 1), .int (gT 2), .int (gT 3), .int (gT 4)]))] := hD
  refine lv_aload_n hx hb dX0_become_16 rfl (lv_at hl 0 rfl) ?_
  refine lv_aload_n hx hb dX0_become_17 rfl (lv_at hl 1 rfl) ?_
  refine va_get (D := D) (ci := 0) (v := .int (gT 2)) (C := RX0) (T := TX0) (N := 5) hx hb hts (fun _ h => w_in (inlX0 _ h)) hown hK hP 1 rfl rfl 2 (by decide) (htL _ wd_64) (fun _ h9 => h9) rfl dX0_become_18 ?_
  refine va_put (D := D) (ci := 0) (v := .int (gT 2)) (ty := .int) (C := RX0) (T := TX0) (N := 5) hx hb hts (fun _ h => w_in (inlX0 _ h)) tyX0 tyX0_ok nmX0 hown hK hP hD hS 0 rfl rfl 2 (by decide) (htL _ wd_64) (fun _ h9 => h9) rfl (by decide +kernel) rfl rfl (Nat.le_of_ble_eq_true rfl) dX0_become_21 (fun H locs hP hD hS => ?_)
  have hP : va_P D vwCl [(adB, .inr (0, [.int (gT 0), .int (gT 1), .int (gT 2), .int (gB 3), .int (gB 4)])), (adT, .inr (0, [.int (gT 0), .int (gT 1), .int (gT 2), .int (gT 3), .int (gT 4)]))] _ := hP
  have hD : va_D A [(adB, .inr (0, [.int (gT 0), .int (gT 1), .int (gT 2), .int (gB 3), .int (gB 4)])), (adT, .inr (0, [.int (gT 0), .int (gT 1), .int (gT 2), .int (gT 3), .int (gT 4)]))] := hD
  refine lv_aload_n hx hb dX0_become_24 rfl (lv_at hl 0 rfl) ?_
  refine lv_aload_n hx hb dX0_become_25 rfl (lv_at hl 1 rfl) ?_
  refine va_get (D := D) (ci := 0) (v := .int (gT 3)) (C := RX0) (T := TX0) (N := 5) hx hb hts (fun _ h => w_in (inlX0 _ h)) hown hK hP 1 rfl rfl 3 (by decide) (htL _ wd_65) (fun _ h9 => h9) rfl dX0_become_26 ?_
  refine va_put (D := D) (ci := 0) (v := .int (gT 3)) (ty := .int) (C := RX0) (T := TX0) (N := 5) hx hb hts (fun _ h => w_in (inlX0 _ h)) tyX0 tyX0_ok nmX0 hown hK hP hD hS 0 rfl rfl 3 (by decide) (htL _ wd_65) (fun _ h9 => h9) rfl (by decide +kernel) rfl rfl (Nat.le_of_ble_eq_true rfl) dX0_become_29 (fun H locs hP hD hS => ?_)
  have hP : va_P D vwCl [(adB, .inr (0, [.int (gT 0), .int (gT 1), .int (gT 2), .int (gT 3), .int (gB 4)])), (adT, .inr (0, [.int (gT 0), .int (gT 1), .int (gT 2), .int (gT 3), .int (gT 4)]))] _ := hP
  have hD : va_D A [(adB, .inr (0, [.int (gT 0), .int (gT 1), .int (gT 2), .int (gT 3), .int (gB 4)])), (adT, .inr (0, [.int (gT 0), .int (gT 1), .int (gT 2), .int (gT 3), .int (gT 4)]))] := hD
  refine lv_aload_n hx hb dX0_become_32 rfl (lv_at hl 0 rfl) ?_
  refine lv_aload_n hx hb dX0_become_33 rfl (lv_at hl 1 rfl) ?_
  refine va_get (D := D) (ci := 0) (v := .int (gT 4)) (C := RX0) (T := TX0) (N := 5) hx hb hts (fun _ h => w_in (inlX0 _ h)) hown hK hP 1 rfl rfl 4 (by decide) (htL _ wd_66) (fun _ h9 => h9) rfl dX0_become_34 ?_
  refine va_put (D := D) (ci := 0) (v := .int (gT 4)) (ty := .int) (C := RX0) (T := TX0) (N := 5) hx hb hts (fun _ h => w_in (inlX0 _ h)) tyX0 tyX0_ok nmX0 hown hK hP hD hS 0 rfl rfl 4 (by decide) (htL _ wd_66) (fun _ h9 => h9) rfl (by decide +kernel) rfl rfl (Nat.le_of_ble_eq_true rfl) dX0_become_37 (fun H locs hP hD hS => ?_)
  have hP : va_P D vwCl [(adB, .inr (0, [.int (gT 0), .int (gT 1), .int (gT 2), .int (gT 3), .int (gT 4)])), (adT, .inr (0, [.int (gT 0), .int (gT 1), .int (gT 2), .int (gT 3), .int (gT 4)]))] _ := hP
  have hD : va_D A [(adB, .inr (0, [.int (gT 0), .int (gT 1), .int (gT 2), .int (gT 3), .int (gT 4)])), (adT, .inr (0, [.int (gT 0), .int (gT 1), .int (gT 2), .int (gT 3), .int (gT 4)]))] := hD
  have hF1 : F_X0_become gB gT = (upd (upd (upd (upd (upd gB 0 (gT 0)) 1 (gT 1)) 2 (gT 2)) 3 (gT 3)) 4 (gT 4)) := rfl
  exact xv_ret hx hb hr hlocks hP hS (congrArg (fun o : Nat → Int32 => ([(adB, .inr (0, [.int (o 0), .int (o 1), .int (o 2), .int (o 3), .int (o 4)])), (adT, .inr (0, [.int (gT 0), .int (gT 1), .int (gT 2), .int (gT 3), .int (gT 4)]))] : va_W)) hF1).symm dX0_become_40

noncomputable def F_X0_delay (gB : Nat → Int32) (p0 : Int32) : Int32 :=
  if (gB 0) = 1 then
  (let x_2 : Int32 := (3 * (gB 1))
  x_2)
  else
  (if (gB 0) = 2 then
  (let x_4 : Int32 := (3 * (gB 1))
  let x_5 : Int32 := (5 * p0)
  let x_6 : Int32 := (x_4 + x_5)
  x_6)
  else
  (if (gB 0) = 3 then
  (let x_8 : Int32 := ((-4) * p0)
  x_8)
  else
  (if (gB 0) = 4 then
  (let x_10 : Int32 := ((-4) * p0)
  let x_11 : Int32 := (x_10 - (gB 1))
  x_11)
  else
  (0))))
set_option maxRecDepth 100000 in
theorem eX0_delay_1 (gB : Nat → Int32) (p0 : Int32) (x_2 : Int32) (ex_2 : x_2 = (3 * (gB 1))) (c_1 : (gB 0) = 1) : F_X0_delay gB p0 = x_2 := by subst ex_2; exact (if_pos c_1).trans (rfl)
set_option maxRecDepth 100000 in
theorem eX0_delay_2 (gB : Nat → Int32) (p0 : Int32) (x_4 : Int32) (x_5 : Int32) (x_6 : Int32) (ex_4 : x_4 = (3 * (gB 1))) (ex_5 : x_5 = (5 * p0)) (ex_6 : x_6 = (x_4 + x_5)) (c_1 : ¬ ((gB 0) = 1)) (c_3 : (gB 0) = 2) : F_X0_delay gB p0 = x_6 := by subst ex_4 ex_5 ex_6; exact (if_neg c_1).trans ((if_pos c_3).trans (rfl))
set_option maxRecDepth 100000 in
theorem eX0_delay_3 (gB : Nat → Int32) (p0 : Int32) (x_8 : Int32) (ex_8 : x_8 = ((-4) * p0)) (c_1 : ¬ ((gB 0) = 1)) (c_3 : ¬ ((gB 0) = 2)) (c_7 : (gB 0) = 3) : F_X0_delay gB p0 = x_8 := by subst ex_8; exact (if_neg c_1).trans ((if_neg c_3).trans ((if_pos c_7).trans (rfl)))
set_option maxRecDepth 100000 in
theorem eX0_delay_4 (gB : Nat → Int32) (p0 : Int32) (x_10 : Int32) (x_11 : Int32) (ex_10 : x_10 = ((-4) * p0)) (ex_11 : x_11 = (x_10 - (gB 1))) (c_1 : ¬ ((gB 0) = 1)) (c_3 : ¬ ((gB 0) = 2)) (c_7 : ¬ ((gB 0) = 3)) (c_9 : (gB 0) = 4) : F_X0_delay gB p0 = x_11 := by subst ex_10 ex_11; exact (if_neg c_1).trans ((if_neg c_3).trans ((if_neg c_7).trans ((if_pos c_9).trans (rfl))))
set_option maxRecDepth 100000 in
theorem eX0_delay_5 (gB : Nat → Int32) (p0 : Int32) (c_1 : ¬ ((gB 0) = 1)) (c_3 : ¬ ((gB 0) = 2)) (c_7 : ¬ ((gB 0) = 3)) (c_9 : ¬ ((gB 0) = 4)) : F_X0_delay gB p0 = 0 := by exact (if_neg c_1).trans ((if_neg c_3).trans ((if_neg c_7).trans ((if_neg c_9).trans (rfl))))
set_option maxHeartbeats 4000000 in
set_option maxRecDepth 100000 in
theorem c_X0_delay (l : Launch) (D : va_G) (cI cL : ClassId)   (adB : Nat) (gB : Nat → Int32) (p0 : Int32)  : Xi l yX0_delay (wm yX0_delay cX0_delay 2 (some .int)) (xR (0) (0)) D (tyA cI cL) [.ref adB, .int p0] [(adB, .inr (0, [.int (gB 0), .int (gB 1), .int (gB 2), .int (gB 3), .int (gB 4)]))] [(adB, .inr (0, [.int (gB 0), .int (gB 1), .int (gB 2), .int (gB 3), .int (gB 4)]))] (F_X0_delay gB p0) := by
  intro sz
  refine x_in (cc := cX0_delay) (maxL := 2) (ret := (some .int)) (by decide) rfl (Nat.le_of_ble_eq_true rfl) (fun p e s m below meth c A ls hfix hr hlocks hN hK hP hAe hD hA hS hl => ?_)
  obtain ⟨hx, hb, hml, hown, hts⟩ := hfix
  rw [← hAe]
  clear hAe
  have hown : s.vm.findClass RX0 = some m.cls := hown
  have htL : ∀ w ∈ wsL_law, w.before ([.ref adB, .int p0] : List Value).toArray s = true := fun w h => hts w (List.mem_cons_of_mem _ h)
  have hl : lv_has ls 2 [(0, .ref adB), (1, .int p0)] := hl
  refine lv_aload_n hx hb dX0_delay_0 rfl (lv_at hl 0 rfl) ?_
  refine va_get (D := D) (ci := 0) (v := .int (gB 0)) (C := RX0) (T := TX0) (N := 5) hx hb hts (fun _ h => w_in (inlX0 _ h)) hown hK hP 0 rfl rfl 0 (by decide) (htL _ wd_62) (fun _ h9 => h9) rfl dX0_delay_1 ?_
  by_cases c_1 : (gB 0) = 1
  · refine lv_tableIn (off := 32) (tgt := 36) hx hb dX0_delay_4 (by rw [c_1]; decide) (by rw [c_1]; decide) (by rw [c_1]; rfl) (by decide) ?_
    refine lv_iconst (v := 3) hx hb dX0_delay_36 (by decide) ?_
    refine lv_aload_n hx hb dX0_delay_37 rfl (lv_at hl 0 rfl) ?_
    refine va_get (D := D) (ci := 0) (v := .int (gB 1)) (C := RX0) (T := TX0) (N := 5) hx hb hts (fun _ h => w_in (inlX0 _ h)) hown hK hP 0 rfl rfl 1 (by decide) (htL _ wd_63) (fun _ h9 => h9) rfl dX0_delay_38 ?_
    refine lv_imul hx hb dX0_delay_41 ?_
    refine lv_topi (fun x_2 ex_2 => ?_)
    have hF1 : F_X0_delay gB p0 = x_2 := (eX0_delay_1 gB p0 x_2 ex_2 c_1)
    exact xi_ret hx hb hr hlocks hP hS rfl (congrArg (fun o : Int32 => o) hF1).symm dX0_delay_42
  · by_cases c_3 : (gB 0) = 2
    · refine lv_tableIn (off := 39) (tgt := 43) hx hb dX0_delay_4 (by rw [c_3]; decide) (by rw [c_3]; decide) (by rw [c_3]; rfl) (by decide) ?_
      refine lv_iconst (v := 3) hx hb dX0_delay_43 (by decide) ?_
      refine lv_aload_n hx hb dX0_delay_44 rfl (lv_at hl 0 rfl) ?_
      refine va_get (D := D) (ci := 0) (v := .int (gB 1)) (C := RX0) (T := TX0) (N := 5) hx hb hts (fun _ h => w_in (inlX0 _ h)) hown hK hP 0 rfl rfl 1 (by decide) (htL _ wd_63) (fun _ h9 => h9) rfl dX0_delay_45 ?_
      refine lv_imul hx hb dX0_delay_48 ?_
      refine lv_topi (fun x_4 ex_4 => ?_)
      refine lv_iconst (v := 5) hx hb dX0_delay_49 (by decide) ?_
      refine lv_iload_n hx hb dX0_delay_50 rfl (lv_at hl 1 rfl) ?_
      refine lv_imul hx hb dX0_delay_51 ?_
      refine lv_topi (fun x_5 ex_5 => ?_)
      refine lv_iadd hx hb dX0_delay_52 ?_
      refine lv_topi (fun x_6 ex_6 => ?_)
      have hF1 : F_X0_delay gB p0 = x_6 := (eX0_delay_2 gB p0 x_4 x_5 x_6 ex_4 ex_5 ex_6 c_1 c_3)
      exact xi_ret hx hb hr hlocks hP hS rfl (congrArg (fun o : Int32 => o) hF1).symm dX0_delay_53
    · by_cases c_7 : (gB 0) = 3
      · refine lv_tableIn (off := 50) (tgt := 54) hx hb dX0_delay_4 (by rw [c_7]; decide) (by rw [c_7]; decide) (by rw [c_7]; rfl) (by decide) ?_
        refine lv_bipush (v := (-4)) hx hb dX0_delay_54 (by decide) ?_
        refine lv_iload_n hx hb dX0_delay_56 rfl (lv_at hl 1 rfl) ?_
        refine lv_imul hx hb dX0_delay_57 ?_
        refine lv_topi (fun x_8 ex_8 => ?_)
        have hF1 : F_X0_delay gB p0 = x_8 := (eX0_delay_3 gB p0 x_8 ex_8 c_1 c_3 c_7)
        exact xi_ret hx hb hr hlocks hP hS rfl (congrArg (fun o : Int32 => o) hF1).symm dX0_delay_58
      · by_cases c_9 : (gB 0) = 4
        · refine lv_tableIn (off := 55) (tgt := 59) hx hb dX0_delay_4 (by rw [c_9]; decide) (by rw [c_9]; decide) (by rw [c_9]; rfl) (by decide) ?_
          refine lv_bipush (v := (-4)) hx hb dX0_delay_59 (by decide) ?_
          refine lv_iload_n hx hb dX0_delay_61 rfl (lv_at hl 1 rfl) ?_
          refine lv_imul hx hb dX0_delay_62 ?_
          refine lv_topi (fun x_10 ex_10 => ?_)
          refine lv_aload_n hx hb dX0_delay_63 rfl (lv_at hl 0 rfl) ?_
          refine va_get (D := D) (ci := 0) (v := .int (gB 1)) (C := RX0) (T := TX0) (N := 5) hx hb hts (fun _ h => w_in (inlX0 _ h)) hown hK hP 0 rfl rfl 1 (by decide) (htL _ wd_63) (fun _ h9 => h9) rfl dX0_delay_64 ?_
          refine lv_isub hx hb dX0_delay_67 ?_
          refine lv_topi (fun x_11 ex_11 => ?_)
          have hF1 : F_X0_delay gB p0 = x_11 := (eX0_delay_4 gB p0 x_10 x_11 ex_10 ex_11 c_1 c_3 c_7 c_9)
          exact xi_ret hx hb hr hlocks hP hS rfl (congrArg (fun o : Int32 => o) hF1).symm dX0_delay_68
        · refine lv_tableOut (tgt := 69) hx hb dX0_delay_4 (by have hn0 := x_nk (z := 1) c_1 rfl; have hn1 := x_nk (z := 2) c_3 rfl; have hn2 := x_nk (z := 3) c_7 rfl; have hn3 := x_nk (z := 4) c_9 rfl; omega) (by decide) ?_
          refine lv_iconst (v := 0) hx hb dX0_delay_69 (by decide) ?_
          have hF1 : F_X0_delay gB p0 = 0 := (eX0_delay_5 gB p0 c_1 c_3 c_7 c_9)
          exact xi_ret hx hb hr hlocks hP hS rfl (congrArg (fun o : Int32 => o) hF1).symm dX0_delay_70

noncomputable def F_X0_turnsAt (gB : Nat → Int32) (p0 : Int32) : Int32 :=
  let r_1 : Int32 := (F_X0_delay gB p0)
  let x_2 : Int32 := ((gB 2) + r_1)
  let x_3 : Int32 := (x_2 - (gB 4))
  let x_4 : Int32 := (if 0 < x_3 then x_3 else 0)
  x_4
set_option maxRecDepth 100000 in
theorem eX0_turnsAt_1 (gB : Nat → Int32) (p0 : Int32) (r_1 : Int32) (x_2 : Int32) (x_3 : Int32) (x_4 : Int32) (er_1 : r_1 = (F_X0_delay gB p0)) (ex_2 : x_2 = ((gB 2) + r_1)) (ex_3 : x_3 = (x_2 - (gB 4))) (ex_4 : x_4 = (if 0 < x_3 then x_3 else 0)) : F_X0_turnsAt gB p0 = x_4 := by subst er_1 ex_2 ex_3 ex_4; exact rfl
set_option maxHeartbeats 4000000 in
set_option maxRecDepth 100000 in
theorem c_X0_turnsAt (l : Launch) (D : va_G) (cI cL : ClassId)   (adB : Nat) (gB : Nat → Int32) (p0 : Int32)  : Xi l yX0_turnsAt (wm yX0_turnsAt cX0_turnsAt 2 (some .int)) (xR (1) (21)) D (tyA cI cL) [.ref adB, .int p0] [(adB, .inr (0, [.int (gB 0), .int (gB 1), .int (gB 2), .int (gB 3), .int (gB 4)]))] [(adB, .inr (0, [.int (gB 0), .int (gB 1), .int (gB 2), .int (gB 3), .int (gB 4)]))] (F_X0_turnsAt gB p0) := by
  intro sz
  refine x_in (cc := cX0_turnsAt) (maxL := 2) (ret := (some .int)) (by decide) rfl (Nat.le_of_ble_eq_true rfl) (fun p e s m below meth c A ls hfix hr hlocks hN hK hP hAe hD hA hS hl => ?_)
  obtain ⟨hx, hb, hml, hown, hts⟩ := hfix
  rw [← hAe]
  clear hAe
  have hown : s.vm.findClass RX0 = some m.cls := hown
  have htL : ∀ w ∈ wsL_law, w.before ([.ref adB, .int p0] : List Value).toArray s = true := fun w h => hts w (List.mem_cons_of_mem _ h)
  have hl : lv_has ls 2 [(0, .ref adB), (1, .int p0)] := hl
  refine lv_iconst (v := 0) hx hb dX0_turnsAt_0 (by decide) ?_
  refine lv_aload_n hx hb dX0_turnsAt_1 rfl (lv_at hl 0 rfl) ?_
  refine va_get (D := D) (ci := 0) (v := .int (gB 2)) (C := RX0) (T := TX0) (N := 5) hx hb hts (fun _ h => w_in (inlX0 _ h)) hown hK hP 0 rfl rfl 2 (by decide) (htL _ wd_64) (fun _ h9 => h9) rfl dX0_turnsAt_2 ?_
  refine lv_aload_n hx hb dX0_turnsAt_5 rfl (lv_at hl 0 rfl) ?_
  refine lv_iload_n hx hb dX0_turnsAt_6 rfl (lv_at hl 1 rfl) ?_
  refine x_ci [0] (va_runV (As := [.int p0]) (rest := [.int (gB 2), .int 0]) ⟨hx, hb, hml, hown, hts⟩ (c_X0_delay l D cI cL adB gB p0 _) (cwV 1 hts (gv_ok (fun _ h => w_in h) wd_394 wd_391 wd_392 wd_393 wd_27) rfl rfl rfl (by decide +kernel) ⟨Nat.le_of_ble_eq_true rfl, Nat.le_of_ble_eq_true rfl⟩) (x_pv hN hK hP hD [0] rfl rfl (ci := 0) (q0 := 0) rfl rfl) rfl rfl hl.1 rfl (lv_room (Nat.le_of_ble_eq_true rfl)) dX0_turnsAt_7 ⟨Nat.zero_le _, Nat.zero_le _⟩) hP hD hS hA rfl (fun r_1 H locs er_1 hP hS => ?_)
  refine lv_iadd hx hb dX0_turnsAt_10 ?_
  refine lv_topi (fun x_2 ex_2 => ?_)
  refine lv_aload_n hx hb dX0_turnsAt_11 rfl (lv_at hl 0 rfl) ?_
  refine va_get (D := D) (ci := 0) (v := .int (gB 4)) (C := RX0) (T := TX0) (N := 5) hx hb hts (fun _ h => w_in (inlX0 _ h)) hown hK hP 0 rfl rfl 4 (by decide) (htL _ wd_66) (fun _ h9 => h9) rfl dX0_turnsAt_12 ?_
  refine lv_isub hx hb dX0_turnsAt_15 ?_
  refine lv_topi (fun x_3 ex_3 => ?_)
  refine va_mmax hx hb (hml.trans hl.1.symm) hown (htL _ wd_387) (htL _ wd_388) (htL _ wd_389) (htL _ wd_390) (Nat.le_of_ble_eq_true rfl) (Nat.le_of_ble_eq_true rfl) (Nat.zero_le _) (Nat.zero_le _) dX0_turnsAt_16 ?_
  refine lv_topi (fun x_4 ex_4 => ?_)
  have hF1 : F_X0_turnsAt gB p0 = x_4 := (eX0_turnsAt_1 gB p0 r_1 x_2 x_3 x_4 er_1 ex_2 ex_3 ex_4)
  exact xi_ret hx hb hr hlocks hP hS rfl (congrArg (fun o : Int32 => o) hF1).symm dX0_turnsAt_19

noncomputable def F_X0_isShown (gB : Nat → Int32) (p0 : Int32) (p1 : Int32) : Int32 :=
  let x_1 : Int32 := (p0 + (gB 3))
  let x_2 : Int32 := (x_1 - p1)
  let x_3 : Int32 := (if 0 ≤ x_2 then x_2 else 0 - x_2)
  if (gB 0) = 4 then
  (if x_3 = 0 then
  (1)
  else
  (0))
  else
  (if (gB 0) = 5 then
  (if 1 < x_3 then
  (0)
  else
  (let x_8 : Int32 := ((gB 1) - (gB 1) / 4 * 4)
  if p0 < x_8 then
  (0)
  else
  (1)))
  else
  (if 1 < x_3 then
  (0)
  else
  (1)))
theorem nz_X0_isShown (gB : Nat → Int32) (p0 : Int32) (p1 : Int32) : narrow .boolean (.int (F_X0_isShown gB p0 p1)) = .int (F_X0_isShown gB p0 p1) := by
  unfold F_X0_isShown
  try dsimp only
  (repeat' split) <;> rfl
set_option maxRecDepth 100000 in
theorem eX0_isShown_1 (gB : Nat → Int32) (p0 : Int32) (p1 : Int32) (x_1 : Int32) (x_2 : Int32) (x_3 : Int32) (ex_1 : x_1 = (p0 + (gB 3))) (ex_2 : x_2 = (x_1 - p1)) (ex_3 : x_3 = (if 0 ≤ x_2 then x_2 else 0 - x_2)) (c_4 : (gB 0) = 4) (c_5 : ¬ (x_3 = 0)) : F_X0_isShown gB p0 p1 = 0 := by subst ex_1 ex_2 ex_3; exact (if_pos c_4).trans ((if_neg c_5).trans (rfl))
set_option maxRecDepth 100000 in
theorem eX0_isShown_2 (gB : Nat → Int32) (p0 : Int32) (p1 : Int32) (x_1 : Int32) (x_2 : Int32) (x_3 : Int32) (ex_1 : x_1 = (p0 + (gB 3))) (ex_2 : x_2 = (x_1 - p1)) (ex_3 : x_3 = (if 0 ≤ x_2 then x_2 else 0 - x_2)) (c_4 : (gB 0) = 4) (c_5 : x_3 = 0) : F_X0_isShown gB p0 p1 = 1 := by subst ex_1 ex_2 ex_3; exact (if_pos c_4).trans ((if_pos c_5).trans (rfl))
set_option maxRecDepth 100000 in
theorem eX0_isShown_3 (gB : Nat → Int32) (p0 : Int32) (p1 : Int32) (x_1 : Int32) (x_2 : Int32) (x_3 : Int32) (ex_1 : x_1 = (p0 + (gB 3))) (ex_2 : x_2 = (x_1 - p1)) (ex_3 : x_3 = (if 0 ≤ x_2 then x_2 else 0 - x_2)) (c_4 : ¬ ((gB 0) = 4)) (c_6 : (gB 0) = 5) (c_7 : 1 < x_3) : F_X0_isShown gB p0 p1 = 0 := by subst ex_1 ex_2 ex_3; exact (if_neg c_4).trans ((if_pos c_6).trans ((if_pos c_7).trans (rfl)))
set_option maxRecDepth 100000 in
theorem eX0_isShown_4 (gB : Nat → Int32) (p0 : Int32) (p1 : Int32) (x_1 : Int32) (x_2 : Int32) (x_3 : Int32) (x_8 : Int32) (ex_1 : x_1 = (p0 + (gB 3))) (ex_2 : x_2 = (x_1 - p1)) (ex_3 : x_3 = (if 0 ≤ x_2 then x_2 else 0 - x_2)) (ex_8 : x_8 = ((gB 1) - (gB 1) / 4 * 4)) (c_4 : ¬ ((gB 0) = 4)) (c_6 : (gB 0) = 5) (c_7 : ¬ (1 < x_3)) (c_9 : p0 < x_8) : F_X0_isShown gB p0 p1 = 0 := by subst ex_1 ex_2 ex_3 ex_8; exact (if_neg c_4).trans ((if_pos c_6).trans ((if_neg c_7).trans ((if_pos c_9).trans (rfl))))
set_option maxRecDepth 100000 in
theorem eX0_isShown_5 (gB : Nat → Int32) (p0 : Int32) (p1 : Int32) (x_1 : Int32) (x_2 : Int32) (x_3 : Int32) (x_8 : Int32) (ex_1 : x_1 = (p0 + (gB 3))) (ex_2 : x_2 = (x_1 - p1)) (ex_3 : x_3 = (if 0 ≤ x_2 then x_2 else 0 - x_2)) (ex_8 : x_8 = ((gB 1) - (gB 1) / 4 * 4)) (c_4 : ¬ ((gB 0) = 4)) (c_6 : (gB 0) = 5) (c_7 : ¬ (1 < x_3)) (c_9 : ¬ (p0 < x_8)) : F_X0_isShown gB p0 p1 = 1 := by subst ex_1 ex_2 ex_3 ex_8; exact (if_neg c_4).trans ((if_pos c_6).trans ((if_neg c_7).trans ((if_neg c_9).trans (rfl))))
set_option maxRecDepth 100000 in
theorem eX0_isShown_6 (gB : Nat → Int32) (p0 : Int32) (p1 : Int32) (x_1 : Int32) (x_2 : Int32) (x_3 : Int32) (ex_1 : x_1 = (p0 + (gB 3))) (ex_2 : x_2 = (x_1 - p1)) (ex_3 : x_3 = (if 0 ≤ x_2 then x_2 else 0 - x_2)) (c_4 : ¬ ((gB 0) = 4)) (c_6 : ¬ ((gB 0) = 5)) (c_10 : 1 < x_3) : F_X0_isShown gB p0 p1 = 0 := by subst ex_1 ex_2 ex_3; exact (if_neg c_4).trans ((if_neg c_6).trans ((if_pos c_10).trans (rfl)))
set_option maxRecDepth 100000 in
theorem eX0_isShown_7 (gB : Nat → Int32) (p0 : Int32) (p1 : Int32) (x_1 : Int32) (x_2 : Int32) (x_3 : Int32) (ex_1 : x_1 = (p0 + (gB 3))) (ex_2 : x_2 = (x_1 - p1)) (ex_3 : x_3 = (if 0 ≤ x_2 then x_2 else 0 - x_2)) (c_4 : ¬ ((gB 0) = 4)) (c_6 : ¬ ((gB 0) = 5)) (c_10 : ¬ (1 < x_3)) : F_X0_isShown gB p0 p1 = 1 := by subst ex_1 ex_2 ex_3; exact (if_neg c_4).trans ((if_neg c_6).trans ((if_neg c_10).trans (rfl)))
set_option maxHeartbeats 4000000 in
set_option maxRecDepth 100000 in
theorem c_X0_isShown (l : Launch) (D : va_G) (cI cL : ClassId)   (adB : Nat) (gB : Nat → Int32) (p0 : Int32) (p1 : Int32)  : Xi l yX0_isShown (wm yX0_isShown cX0_isShown 4 (some .boolean)) (xR (1) (21)) D (tyA cI cL) [.ref adB, .int p0, .int p1] [(adB, .inr (0, [.int (gB 0), .int (gB 1), .int (gB 2), .int (gB 3), .int (gB 4)]))] [(adB, .inr (0, [.int (gB 0), .int (gB 1), .int (gB 2), .int (gB 3), .int (gB 4)]))] (F_X0_isShown gB p0 p1) := by
  intro sz
  refine x_in (cc := cX0_isShown) (maxL := 4) (ret := (some .boolean)) (by decide) rfl (Nat.le_of_ble_eq_true rfl) (fun p e s m below meth c A ls hfix hr hlocks hN hK hP hAe hD hA hS hl => ?_)
  obtain ⟨hx, hb, hml, hown, hts⟩ := hfix
  rw [← hAe]
  clear hAe
  have hown : s.vm.findClass RX0 = some m.cls := hown
  have htL : ∀ w ∈ wsL_law, w.before ([.ref adB, .int p0, .int p1] : List Value).toArray s = true := fun w h => hts w (List.mem_cons_of_mem _ h)
  have hl : lv_has ls 4 [(0, .ref adB), (1, .int p0), (2, .int p1)] := hl
  refine lv_iload_n hx hb dX0_isShown_0 rfl (lv_at hl 1 rfl) ?_
  refine lv_aload_n hx hb dX0_isShown_1 rfl (lv_at hl 0 rfl) ?_
  refine va_get (D := D) (ci := 0) (v := .int (gB 3)) (C := RX0) (T := TX0) (N := 5) hx hb hts (fun _ h => w_in (inlX0 _ h)) hown hK hP 0 rfl rfl 3 (by decide) (htL _ wd_65) (fun _ h9 => h9) rfl dX0_isShown_2 ?_
  refine lv_iadd hx hb dX0_isShown_5 ?_
  refine lv_topi (fun x_1 ex_1 => ?_)
  refine lv_iload_n hx hb dX0_isShown_6 rfl (lv_at hl 2 rfl) ?_
  refine lv_isub hx hb dX0_isShown_7 ?_
  refine lv_topi (fun x_2 ex_2 => ?_)
  refine va_mabs hx hb (hml.trans hl.1.symm) hown (htL _ wd_449) (htL _ wd_450) (htL _ wd_389) (htL _ wd_451) (Nat.le_of_ble_eq_true rfl) (Nat.le_of_ble_eq_true rfl) (Nat.zero_le _) (Nat.zero_le _) dX0_isShown_8 ?_
  refine lv_topi (fun x_3 ex_3 => ?_)
  refine lv_istore_n (lv' := [(3, .int x_3), (0, .ref adB), (1, .int p0), (2, .int p1)]) hx hb dX0_isShown_11 rfl hl (by decide) rfl (fun ls hl => ?_)
  refine lv_aload_n hx hb dX0_isShown_12 rfl (lv_at hl 1 rfl) ?_
  refine va_get (D := D) (ci := 0) (v := .int (gB 0)) (C := RX0) (T := TX0) (N := 5) hx hb hts (fun _ h => w_in (inlX0 _ h)) hown hK hP 0 rfl rfl 0 (by decide) (htL _ wd_62) (fun _ h9 => h9) rfl dX0_isShown_13 ?_
  by_cases c_4 : (gB 0) = 4
  · refine lv_lookup (off := 28) (tgt := 44) hx hb dX0_isShown_16 (by decide) (by rw [c_4]; rfl) (by decide) ?_
    refine lv_iload_n hx hb dX0_isShown_44 rfl (lv_at hl 0 rfl) ?_
    refine lv_if_ne (tgt := 52) hx hb dX0_isShown_45 (by decide) (fun c_5 => ?_) (fun c_5 => ?_)
    · refine lv_iconst (v := 0) hx hb dX0_isShown_52 (by decide) ?_
      have hF1 : F_X0_isShown gB p0 p1 = 0 := (eX0_isShown_1 gB p0 p1 x_1 x_2 x_3 ex_1 ex_2 ex_3 c_4 c_5)
      exact xz_ret hx hb hr hlocks hP hS rfl (congrArg (fun o : Int32 => o) hF1).symm dX0_isShown_53 rfl
    · refine lv_iconst (v := 1) hx hb dX0_isShown_48 (by decide) ?_
      refine lv_goto (tgt := 53) hx hb dX0_isShown_49 (by decide) ?_
      have hF1 : F_X0_isShown gB p0 p1 = 1 := (eX0_isShown_2 gB p0 p1 x_1 x_2 x_3 ex_1 ex_2 ex_3 c_4 c_5)
      exact xz_ret hx hb hr hlocks hP hS rfl (congrArg (fun o : Int32 => o) hF1).symm dX0_isShown_53 rfl
  · by_cases c_6 : (gB 0) = 5
    · refine lv_lookup (off := 38) (tgt := 54) hx hb dX0_isShown_16 (by decide) (by rw [c_6]; rfl) (by decide) ?_
      refine lv_iload_n hx hb dX0_isShown_54 rfl (lv_at hl 0 rfl) ?_
      refine lv_iconst (v := 1) hx hb dX0_isShown_55 (by decide) ?_
      refine lv_icmp_gt (tgt := 73) hx hb dX0_isShown_56 (by decide) (fun c_7 => ?_) (fun c_7 => ?_)
      · refine lv_iconst (v := 0) hx hb dX0_isShown_73 (by decide) ?_
        have hF1 : F_X0_isShown gB p0 p1 = 0 := (eX0_isShown_3 gB p0 p1 x_1 x_2 x_3 ex_1 ex_2 ex_3 c_4 c_6 c_7)
        exact xz_ret hx hb hr hlocks hP hS rfl (congrArg (fun o : Int32 => o) hF1).symm dX0_isShown_74 rfl
      · refine lv_iload_n hx hb dX0_isShown_59 rfl (lv_at hl 2 rfl) ?_
        refine lv_aload_n hx hb dX0_isShown_60 rfl (lv_at hl 1 rfl) ?_
        refine va_get (D := D) (ci := 0) (v := .int (gB 1)) (C := RX0) (T := TX0) (N := 5) hx hb hts (fun _ h => w_in (inlX0 _ h)) hown hK hP 0 rfl rfl 1 (by decide) (htL _ wd_63) (fun _ h9 => h9) rfl dX0_isShown_61 ?_
        refine lv_iconst (v := 4) hx hb dX0_isShown_64 (by decide) ?_
        refine lv_irem hx hb dX0_isShown_65 (by decide) ?_
        refine lv_topi (fun x_8 ex_8 => ?_)
        refine lv_icmp_lt (tgt := 73) hx hb dX0_isShown_66 (by decide) (fun c_9 => ?_) (fun c_9 => ?_)
        · refine lv_iconst (v := 0) hx hb dX0_isShown_73 (by decide) ?_
          have hF1 : F_X0_isShown gB p0 p1 = 0 := (eX0_isShown_4 gB p0 p1 x_1 x_2 x_3 x_8 ex_1 ex_2 ex_3 ex_8 c_4 c_6 c_7 c_9)
          exact xz_ret hx hb hr hlocks hP hS rfl (congrArg (fun o : Int32 => o) hF1).symm dX0_isShown_74 rfl
        · refine lv_iconst (v := 1) hx hb dX0_isShown_69 (by decide) ?_
          refine lv_goto (tgt := 74) hx hb dX0_isShown_70 (by decide) ?_
          have hF1 : F_X0_isShown gB p0 p1 = 1 := (eX0_isShown_5 gB p0 p1 x_1 x_2 x_3 x_8 ex_1 ex_2 ex_3 ex_8 c_4 c_6 c_7 c_9)
          exact xz_ret hx hb hr hlocks hP hS rfl (congrArg (fun o : Int32 => o) hF1).symm dX0_isShown_74 rfl
    · refine lv_lookup (off := 59) (tgt := 75) hx hb dX0_isShown_16 (by decide) (by simp only [Op.lookupswitch.offset]; rw [if_neg (x_nk (z := 4) c_4 rfl), if_neg (x_nk (z := 5) c_6 rfl)]) (by decide) ?_
      refine lv_iload_n hx hb dX0_isShown_75 rfl (lv_at hl 0 rfl) ?_
      refine lv_iconst (v := 1) hx hb dX0_isShown_76 (by decide) ?_
      refine lv_icmp_gt (tgt := 84) hx hb dX0_isShown_77 (by decide) (fun c_10 => ?_) (fun c_10 => ?_)
      · refine lv_iconst (v := 0) hx hb dX0_isShown_84 (by decide) ?_
        have hF1 : F_X0_isShown gB p0 p1 = 0 := (eX0_isShown_6 gB p0 p1 x_1 x_2 x_3 ex_1 ex_2 ex_3 c_4 c_6 c_10)
        exact xz_ret hx hb hr hlocks hP hS rfl (congrArg (fun o : Int32 => o) hF1).symm dX0_isShown_85 rfl
      · refine lv_iconst (v := 1) hx hb dX0_isShown_80 (by decide) ?_
        refine lv_goto (tgt := 85) hx hb dX0_isShown_81 (by decide) ?_
        have hF1 : F_X0_isShown gB p0 p1 = 1 := (eX0_isShown_7 gB p0 p1 x_1 x_2 x_3 ex_1 ex_2 ex_3 c_4 c_6 c_10)
        exact xz_ret hx hb hr hlocks hP hS rfl (congrArg (fun o : Int32 => o) hF1).symm dX0_isShown_85 rfl

noncomputable def F_X0_columnsFor_L4 (gB : Nat → Int32) (p0 : Int32) : Nat → Int32 → Int32 → Int32
  | 0, _, _ => default
  | n + 1, v2a, v3a =>
  if 4 ≤ v3a then
  (v2a)
  else
  (let r_2 : Int32 := (F_X0_isShown gB v3a p0)
  if r_2 = 0 then
  (let x_4 : Int32 := v3a + 1
  F_X0_columnsFor_L4 gB p0 n v2a x_4)
  else
  (let x_5 : Int32 := (1 <<< (v3a &&& 31))
  let x_6 : Int32 := (v2a ||| x_5)
  let x_7 : Int32 := v3a + 1
  F_X0_columnsFor_L4 gB p0 n x_6 x_7))
noncomputable def F_X0_columnsFor (gB : Nat → Int32) (p0 : Int32) : Int32 :=
  F_X0_columnsFor_L4 gB p0 ((((4 : Int32).toInt - (0 : Int32).toInt).toNat) + 1) 0 0
set_option maxRecDepth 100000 in
theorem eX0_columnsFor_1 (gB : Nat → Int32) (p0 : Int32) (nf : Nat) (v2a : Int32) (v3a : Int32) (c_1 : 4 ≤ v3a) : F_X0_columnsFor_L4 gB p0 (nf + 1) v2a v3a = v2a := by exact (if_pos c_1).trans (rfl)
set_option maxRecDepth 100000 in
theorem eX0_columnsFor_2 (gB : Nat → Int32) (p0 : Int32) (nf : Nat) (v2a : Int32) (v3a : Int32) (r_2 : Int32) (x_4 : Int32) (er_2 : r_2 = (F_X0_isShown gB v3a p0)) (ex_4 : x_4 = v3a + 1) (c_1 : ¬ (4 ≤ v3a)) (c_3 : r_2 = 0) : F_X0_columnsFor_L4 gB p0 (nf + 1) v2a v3a = F_X0_columnsFor_L4 gB p0 nf v2a x_4 := by subst er_2 ex_4; exact (if_neg c_1).trans ((if_pos c_3).trans (rfl))
set_option maxRecDepth 100000 in
theorem eX0_columnsFor_3 (gB : Nat → Int32) (p0 : Int32) (nf : Nat) (v2a : Int32) (v3a : Int32) (r_2 : Int32) (x_5 : Int32) (x_6 : Int32) (x_7 : Int32) (er_2 : r_2 = (F_X0_isShown gB v3a p0)) (ex_5 : x_5 = (1 <<< (v3a &&& 31))) (ex_6 : x_6 = (v2a ||| x_5)) (ex_7 : x_7 = v3a + 1) (c_1 : ¬ (4 ≤ v3a)) (c_3 : ¬ (r_2 = 0)) : F_X0_columnsFor_L4 gB p0 (nf + 1) v2a v3a = F_X0_columnsFor_L4 gB p0 nf x_6 x_7 := by subst er_2 ex_5 ex_6 ex_7; exact (if_neg c_1).trans ((if_neg c_3).trans (rfl))
set_option maxHeartbeats 4000000 in
set_option maxRecDepth 100000 in
theorem c_X0_columnsFor (l : Launch) (D : va_G) (cI cL : ClassId)   (adB : Nat) (gB : Nat → Int32) (p0 : Int32)  : Xi l yX0_columnsFor (wm yX0_columnsFor cX0_columnsFor 4 (some .int)) (xR (2) (44)) D (tyA cI cL) [.ref adB, .int p0] [(adB, .inr (0, [.int (gB 0), .int (gB 1), .int (gB 2), .int (gB 3), .int (gB 4)]))] [(adB, .inr (0, [.int (gB 0), .int (gB 1), .int (gB 2), .int (gB 3), .int (gB 4)]))] (F_X0_columnsFor gB p0) := by
  intro sz
  refine x_in (cc := cX0_columnsFor) (maxL := 4) (ret := (some .int)) (by decide) rfl (Nat.le_of_ble_eq_true rfl) (fun p e s m below meth c A ls hfix hr hlocks hN hK hP hAe hD hA hS hl => ?_)
  obtain ⟨hx, hb, hml, hown, hts⟩ := hfix
  rw [← hAe]
  clear hAe
  have hown : s.vm.findClass RX0 = some m.cls := hown
  have htL : ∀ w ∈ wsL_law, w.before ([.ref adB, .int p0] : List Value).toArray s = true := fun w h => hts w (List.mem_cons_of_mem _ h)
  have hl : lv_has ls 4 [(0, .ref adB), (1, .int p0)] := hl
  refine lv_iconst (v := 0) hx hb dX0_columnsFor_0 (by decide) ?_
  refine lv_istore_n (lv' := [(2, .int 0), (0, .ref adB), (1, .int p0)]) hx hb dX0_columnsFor_1 rfl hl (by decide) rfl (fun ls hl => ?_)
  refine lv_iconst (v := 0) hx hb dX0_columnsFor_2 (by decide) ?_
  refine lv_istore_n (lv' := [(3, .int 0), (2, .int 0), (0, .ref adB), (1, .int p0)]) hx hb dX0_columnsFor_3 rfl hl (by decide) rfl (fun ls hl => ?_)
  have loop : ∀ (nf : Nat) (v2a : Int32) (v3a : Int32) (H : Heap) (locs : List Loc) (ls : Array Slot), ((4 : Int32).toInt - v3a.toInt).toNat < nf → F_X0_columnsFor gB p0 = F_X0_columnsFor_L4 gB p0 nf v2a v3a → va_P D vwCl [(adB, .inr (0, [.int (gB 0), .int (gB 1), .int (gB 2), .int (gB 3), .int (gB 4)]))] H → va_D A [(adB, .inr (0, [.int (gB 0), .int (gB 1), .int (gB 2), .int (gB 3), .int (gB 4)]))] → va_S A s.heap H locs → lv_has ls 4 [(3, .int v3a), (2, .int v2a), (0, .ref adB), (1, .int p0)] → W p l e (xR (2) (44)) s m ([.ref adB, .int p0] : List Value).toArray below meth c H locs 0 0 (MQ below (va_Qi (fun (r' : Int32) (_ : Unit) => r' = (F_X0_columnsFor gB p0)) (xE D [(adB, .inr (0, [.int (gB 0), .int (gB 1), .int (gB 2), .int (gB 3), .int (gB 4)]))]) A) ([.ref adB, .int p0] : List Value).toArray s 0 0 A) (F0 m 4 ls []) := by
    intro nf
    induction nf with
    | zero => intro v2a v3a H locs ls hm; exact absurd hm (Nat.not_lt_zero _)
    | succ nf ih =>
      intro v2a v3a H locs ls hm hF hP hD hS hl
      refine lv_iload_n hx hb dX0_columnsFor_4 rfl (lv_at hl 0 rfl) ?_
      refine lv_iconst (v := 4) hx hb dX0_columnsFor_5 (by decide) ?_
      refine lv_icmp_ge (tgt := 30) hx hb dX0_columnsFor_6 (by decide) (fun c_1 => ?_) (fun c_1 => ?_)
      · refine lv_iload_n hx hb dX0_columnsFor_30 rfl (lv_at hl 1 rfl) ?_
        have hF1 : F_X0_columnsFor gB p0 = v2a := hF.trans (eX0_columnsFor_1 gB p0 nf v2a v3a c_1)
        exact xi_ret hx hb hr hlocks hP hS rfl (congrArg (fun o : Int32 => o) hF1).symm dX0_columnsFor_31
      · refine lv_aload_n hx hb dX0_columnsFor_9 rfl (lv_at hl 2 rfl) ?_
        refine lv_iload_n hx hb dX0_columnsFor_10 rfl (lv_at hl 0 rfl) ?_
        refine lv_iload_n hx hb dX0_columnsFor_11 rfl (lv_at hl 3 rfl) ?_
        refine x_ci [0] (va_runV (As := [.int v3a, .int p0]) (rest := []) ⟨hx, hb, hml, hown, hts⟩ (c_X0_isShown l D cI cL adB gB v3a p0 _) (cwV 2 hts (gv_ok (fun _ h => w_in h) wd_448 wd_445 wd_446 wd_447 wd_27) rfl rfl rfl (by decide +kernel) ⟨Nat.le_of_ble_eq_true rfl, Nat.le_of_ble_eq_true rfl⟩) (x_pv hN hK hP hD [0] rfl rfl (ci := 0) (q0 := 0) rfl rfl) rfl rfl hl.1 rfl (lv_room (Nat.le_of_ble_eq_true rfl)) dX0_columnsFor_12 ⟨Nat.zero_le _, Nat.zero_le _⟩) hP hD hS hA rfl (fun r_2 H locs er_2 hP hS => ?_)
        refine lv_if_eq (tgt := 24) hx hb dX0_columnsFor_15 (by decide) (fun c_3 => ?_) (fun c_3 => ?_)
        · obtain ⟨x_4, ex_4⟩ : ∃ y : Int32, y = v3a + 1 := ⟨_, rfl⟩
          refine lv_iinc (v := x_4) (lv' := [(3, .int x_4), (2, .int v2a), (0, .ref adB), (1, .int p0)]) hx hb dX0_columnsFor_24 hl (k := 0) rfl (by rw [ex_4]; rfl) (by decide) rfl (fun ls hl => ?_)
          refine lv_goto (tgt := 4) hx hb dX0_columnsFor_27 (by decide) ?_
          exact ih v2a x_4 _ _ _ (by rw [ex_4]; first | exact x_up (by assumption) hm | exact x_up' (by assumption) hm | exact x_up c_1 hm | omega) (hF.trans (eX0_columnsFor_2 gB p0 nf v2a v3a r_2 x_4 er_2 ex_4 c_1 c_3)) hP hD hS (lv_sub hl [0, 1, 2, 3] rfl)
        · refine lv_iload_n hx hb dX0_columnsFor_18 rfl (lv_at hl 1 rfl) ?_
          refine lv_iconst (v := 1) hx hb dX0_columnsFor_19 (by decide) ?_
          refine lv_iload_n hx hb dX0_columnsFor_20 rfl (lv_at hl 0 rfl) ?_
          refine lv_ishl hx hb dX0_columnsFor_21 ?_
          refine lv_topi (fun x_5 ex_5 => ?_)
          refine lv_ior hx hb dX0_columnsFor_22 ?_
          refine lv_topi (fun x_6 ex_6 => ?_)
          refine lv_istore_n (lv' := [(2, .int x_6), (3, .int v3a), (0, .ref adB), (1, .int p0)]) hx hb dX0_columnsFor_23 rfl hl (by decide) rfl (fun ls hl => ?_)
          obtain ⟨x_7, ex_7⟩ : ∃ y : Int32, y = v3a + 1 := ⟨_, rfl⟩
          refine lv_iinc (v := x_7) (lv' := [(3, .int x_7), (2, .int x_6), (0, .ref adB), (1, .int p0)]) hx hb dX0_columnsFor_24 hl (k := 1) rfl (by rw [ex_7]; rfl) (by decide) rfl (fun ls hl => ?_)
          refine lv_goto (tgt := 4) hx hb dX0_columnsFor_27 (by decide) ?_
          exact ih x_6 x_7 _ _ _ (by rw [ex_7]; first | exact x_up (by assumption) hm | exact x_up' (by assumption) hm | exact x_up c_1 hm | omega) (hF.trans (eX0_columnsFor_3 gB p0 nf v2a v3a r_2 x_5 x_6 x_7 er_2 ex_5 ex_6 ex_7 c_1 c_3)) hP hD hS (lv_sub hl [0, 1, 2, 3] rfl)
  exact loop ((((4 : Int32).toInt - (0 : Int32).toInt).toNat) + 1) 0 0 _ _ _ (Nat.lt_succ_self _) rfl hP hD hS hl

noncomputable def F_X2_startPage (fK : Nat → Int32) : Nat → Int32 :=
  (upd (upd (upd (upd (upd fK 3 0) 4 0) 5 0) 6 0) 7 0)
set_option maxHeartbeats 4000000 in
set_option maxRecDepth 100000 in
theorem c_X2_startPage (l : Launch) (D : va_G) (cI cL : ClassId)   (adK : Nat) (fK : Nat → Int32)  : Xv l yX2_startPage (wm yX2_startPage cX2_startPage 1 none) (xR (0) (0)) D (tyA cI cL) [.ref adK] [(adK, .inr (2, [.int (fK 0), .int (fK 1), .int (fK 2), .int (fK 3), .int (fK 4), .int (fK 5), .int (fK 6), .int (fK 7)]))] [(adK, .inr (2, [.int ((F_X2_startPage fK) 0), .int ((F_X2_startPage fK) 1), .int ((F_X2_startPage fK) 2), .int ((F_X2_startPage fK) 3), .int ((F_X2_startPage fK) 4), .int ((F_X2_startPage fK) 5), .int ((F_X2_startPage fK) 6), .int ((F_X2_startPage fK) 7)]))] := by
  intro sz
  refine x_in (cc := cX2_startPage) (maxL := 1) (ret := none) (by decide) rfl (Nat.le_of_ble_eq_true rfl) (fun p e s m below meth c A ls hfix hr hlocks hN hK hP hAe hD hA hS hl => ?_)
  obtain ⟨hx, hb, hml, hown, hts⟩ := hfix
  rw [← hAe]
  clear hAe
  have hown : s.vm.findClass RX2 = some m.cls := hown
  have htL : ∀ w ∈ wsL_law, w.before ([.ref adK] : List Value).toArray s = true := fun w h => hts w (List.mem_cons_of_mem _ h)
  have hl : lv_has ls 1 [(0, .ref adK)] := hl
  refine lv_aload_n hx hb dX2_startPage_0 rfl (lv_at hl 0 rfl) ?_
  refine lv_iconst (v := 0) hx hb dX2_startPage_1 (by decide) ?_
  refine va_put (D := D) (ci := 2) (v := .int 0) (ty := .int) (C := RX2) (T := TX2) (N := 8) hx hb hts (fun _ h => w_in (inlX2 _ h)) tyX2 tyX2_ok nmX2 hown hK hP hD hS 0 rfl rfl 3 (by decide) (htL _ wd_73) (fun _ h9 => h9) rfl (by decide +kernel) rfl rfl (Nat.le_of_ble_eq_true rfl) dX2_startPage_2 (fun H locs hP hD hS => ?_)
  have hP : va_P D vwCl [(adK, .inr (2, [.int (fK 0), .int (fK 1), .int (fK 2), .int 0, .int (fK 4), .int (fK 5), .int (fK 6), .int (fK 7)]))] _ := hP
  have hD : va_D A [(adK, .inr (2, [.int (fK 0), .int (fK 1), .int (fK 2), .int 0, .int (fK 4), .int (fK 5), .int (fK 6), .int (fK 7)]))] := hD
  refine lv_aload_n hx hb dX2_startPage_5 rfl (lv_at hl 0 rfl) ?_
  refine lv_iconst (v := 0) hx hb dX2_startPage_6 (by decide) ?_
  refine va_put (D := D) (ci := 2) (v := .int 0) (ty := .int) (C := RX2) (T := TX2) (N := 8) hx hb hts (fun _ h => w_in (inlX2 _ h)) tyX2 tyX2_ok nmX2 hown hK hP hD hS 0 rfl rfl 4 (by decide) (htL _ wd_74) (fun _ h9 => h9) rfl (by decide +kernel) rfl rfl (Nat.le_of_ble_eq_true rfl) dX2_startPage_7 (fun H locs hP hD hS => ?_)
  have hP : va_P D vwCl [(adK, .inr (2, [.int (fK 0), .int (fK 1), .int (fK 2), .int 0, .int 0, .int (fK 5), .int (fK 6), .int (fK 7)]))] _ := hP
  have hD : va_D A [(adK, .inr (2, [.int (fK 0), .int (fK 1), .int (fK 2), .int 0, .int 0, .int (fK 5), .int (fK 6), .int (fK 7)]))] := hD
  refine lv_aload_n hx hb dX2_startPage_10 rfl (lv_at hl 0 rfl) ?_
  refine lv_iconst (v := 0) hx hb dX2_startPage_11 (by decide) ?_
  refine va_put (D := D) (ci := 2) (v := .int 0) (ty := .int) (C := RX2) (T := TX2) (N := 8) hx hb hts (fun _ h => w_in (inlX2 _ h)) tyX2 tyX2_ok nmX2 hown hK hP hD hS 0 rfl rfl 5 (by decide) (htL _ wd_75) (fun _ h9 => h9) rfl (by decide +kernel) rfl rfl (Nat.le_of_ble_eq_true rfl) dX2_startPage_12 (fun H locs hP hD hS => ?_)
  have hP : va_P D vwCl [(adK, .inr (2, [.int (fK 0), .int (fK 1), .int (fK 2), .int 0, .int 0, .int 0, .int (fK 6), .int (fK 7)]))] _ := hP
  have hD : va_D A [(adK, .inr (2, [.int (fK 0), .int (fK 1), .int (fK 2), .int 0, .int 0, .int 0, .int (fK 6), .int (fK 7)]))] := hD
  refine lv_aload_n hx hb dX2_startPage_15 rfl (lv_at hl 0 rfl) ?_
  refine lv_iconst (v := 0) hx hb dX2_startPage_16 (by decide) ?_
  refine va_put (D := D) (ci := 2) (v := .int 0) (ty := .int) (C := RX2) (T := TX2) (N := 8) hx hb hts (fun _ h => w_in (inlX2 _ h)) tyX2 tyX2_ok nmX2 hown hK hP hD hS 0 rfl rfl 6 (by decide) (htL _ wd_76) (fun _ h9 => h9) rfl (by decide +kernel) rfl rfl (Nat.le_of_ble_eq_true rfl) dX2_startPage_17 (fun H locs hP hD hS => ?_)
  have hP : va_P D vwCl [(adK, .inr (2, [.int (fK 0), .int (fK 1), .int (fK 2), .int 0, .int 0, .int 0, .int 0, .int (fK 7)]))] _ := hP
  have hD : va_D A [(adK, .inr (2, [.int (fK 0), .int (fK 1), .int (fK 2), .int 0, .int 0, .int 0, .int 0, .int (fK 7)]))] := hD
  refine lv_aload_n hx hb dX2_startPage_20 rfl (lv_at hl 0 rfl) ?_
  refine lv_iconst (v := 0) hx hb dX2_startPage_21 (by decide) ?_
  refine va_put (D := D) (ci := 2) (v := .int 0) (ty := .boolean) (C := RX2) (T := TX2) (N := 8) hx hb hts (fun _ h => w_in (inlX2 _ h)) tyX2 tyX2_ok nmX2 hown hK hP hD hS 0 rfl rfl 7 (by decide) (htL _ wd_77) (fun _ h9 => h9) rfl (by decide +kernel) rfl rfl (Nat.le_of_ble_eq_true rfl) dX2_startPage_22 (fun H locs hP hD hS => ?_)
  have hP : va_P D vwCl [(adK, .inr (2, [.int (fK 0), .int (fK 1), .int (fK 2), .int 0, .int 0, .int 0, .int 0, .int 0]))] _ := hP
  have hD : va_D A [(adK, .inr (2, [.int (fK 0), .int (fK 1), .int (fK 2), .int 0, .int 0, .int 0, .int 0, .int 0]))] := hD
  have hF1 : F_X2_startPage fK = (upd (upd (upd (upd (upd fK 3 0) 4 0) 5 0) 6 0) 7 0) := rfl
  exact xv_ret hx hb hr hlocks hP hS (congrArg (fun o : Nat → Int32 => ([(adK, .inr (2, [.int (o 0), .int (o 1), .int (o 2), .int (o 3), .int (o 4), .int (o 5), .int (o 6), .int (o 7)]))] : va_W)) hF1).symm dX2_startPage_25

noncomputable def F_X2_come (fK : Nat → Int32) (p0 : Int32) (p1 : Int32) (p2 : Int32) : Nat → Int32 :=
  let o_1 : Nat → Int32 := (F_X2_startPage (upd (upd (upd fK 0 p0) 1 p1) 2 p2))
  o_1
set_option maxRecDepth 100000 in
theorem eX2_come_1 (fK : Nat → Int32) (p0 : Int32) (p1 : Int32) (p2 : Int32) (o_1 : Nat → Int32) (eo_1 : o_1 = (F_X2_startPage (upd (upd (upd fK 0 p0) 1 p1) 2 p2))) : F_X2_come fK p0 p1 p2 = o_1 := by subst eo_1; exact rfl
set_option maxHeartbeats 4000000 in
set_option maxRecDepth 100000 in
theorem c_X2_come (l : Launch) (D : va_G) (cI cL : ClassId)   (adK : Nat) (fK : Nat → Int32) (p0 : Int32) (p1 : Int32) (p2 : Int32)  : Xv l yX2_come (wm yX2_come cX2_come 4 none) (xR (1) (20)) D (tyA cI cL) [.ref adK, .int p0, .int p1, .int p2] [(adK, .inr (2, [.int (fK 0), .int (fK 1), .int (fK 2), .int (fK 3), .int (fK 4), .int (fK 5), .int (fK 6), .int (fK 7)]))] [(adK, .inr (2, [.int ((F_X2_come fK p0 p1 p2) 0), .int ((F_X2_come fK p0 p1 p2) 1), .int ((F_X2_come fK p0 p1 p2) 2), .int ((F_X2_come fK p0 p1 p2) 3), .int ((F_X2_come fK p0 p1 p2) 4), .int ((F_X2_come fK p0 p1 p2) 5), .int ((F_X2_come fK p0 p1 p2) 6), .int ((F_X2_come fK p0 p1 p2) 7)]))] := by
  intro sz
  refine x_in (cc := cX2_come) (maxL := 4) (ret := none) (by decide) rfl (Nat.le_of_ble_eq_true rfl) (fun p e s m below meth c A ls hfix hr hlocks hN hK hP hAe hD hA hS hl => ?_)
  obtain ⟨hx, hb, hml, hown, hts⟩ := hfix
  rw [← hAe]
  clear hAe
  have hown : s.vm.findClass RX2 = some m.cls := hown
  have htL : ∀ w ∈ wsL_law, w.before ([.ref adK, .int p0, .int p1, .int p2] : List Value).toArray s = true := fun w h => hts w (List.mem_cons_of_mem _ h)
  have hl : lv_has ls 4 [(0, .ref adK), (1, .int p0), (2, .int p1), (3, .int p2)] := hl
  refine lv_aload_n hx hb dX2_come_0 rfl (lv_at hl 0 rfl) ?_
  refine lv_iload_n hx hb dX2_come_1 rfl (lv_at hl 1 rfl) ?_
  refine va_put (D := D) (ci := 2) (v := .int p0) (ty := .int) (C := RX2) (T := TX2) (N := 8) hx hb hts (fun _ h => w_in (inlX2 _ h)) tyX2 tyX2_ok nmX2 hown hK hP hD hS 0 rfl rfl 0 (by decide) (htL _ wd_70) (fun _ h9 => h9) rfl (by decide +kernel) rfl rfl (Nat.le_of_ble_eq_true rfl) dX2_come_2 (fun H locs hP hD hS => ?_)
  have hP : va_P D vwCl [(adK, .inr (2, [.int p0, .int (fK 1), .int (fK 2), .int (fK 3), .int (fK 4), .int (fK 5), .int (fK 6), .int (fK 7)]))] _ := hP
  have hD : va_D A [(adK, .inr (2, [.int p0, .int (fK 1), .int (fK 2), .int (fK 3), .int (fK 4), .int (fK 5), .int (fK 6), .int (fK 7)]))] := hD
  refine lv_aload_n hx hb dX2_come_5 rfl (lv_at hl 0 rfl) ?_
  refine lv_iload_n hx hb dX2_come_6 rfl (lv_at hl 2 rfl) ?_
  refine va_put (D := D) (ci := 2) (v := .int p1) (ty := .int) (C := RX2) (T := TX2) (N := 8) hx hb hts (fun _ h => w_in (inlX2 _ h)) tyX2 tyX2_ok nmX2 hown hK hP hD hS 0 rfl rfl 1 (by decide) (htL _ wd_71) (fun _ h9 => h9) rfl (by decide +kernel) rfl rfl (Nat.le_of_ble_eq_true rfl) dX2_come_7 (fun H locs hP hD hS => ?_)
  have hP : va_P D vwCl [(adK, .inr (2, [.int p0, .int p1, .int (fK 2), .int (fK 3), .int (fK 4), .int (fK 5), .int (fK 6), .int (fK 7)]))] _ := hP
  have hD : va_D A [(adK, .inr (2, [.int p0, .int p1, .int (fK 2), .int (fK 3), .int (fK 4), .int (fK 5), .int (fK 6), .int (fK 7)]))] := hD
  refine lv_aload_n hx hb dX2_come_10 rfl (lv_at hl 0 rfl) ?_
  refine lv_iload_n hx hb dX2_come_11 rfl (lv_at hl 3 rfl) ?_
  refine va_put (D := D) (ci := 2) (v := .int p2) (ty := .int) (C := RX2) (T := TX2) (N := 8) hx hb hts (fun _ h => w_in (inlX2 _ h)) tyX2 tyX2_ok nmX2 hown hK hP hD hS 0 rfl rfl 2 (by decide) (htL _ wd_72) (fun _ h9 => h9) rfl (by decide +kernel) rfl rfl (Nat.le_of_ble_eq_true rfl) dX2_come_12 (fun H locs hP hD hS => ?_)
  have hP : va_P D vwCl [(adK, .inr (2, [.int p0, .int p1, .int p2, .int (fK 3), .int (fK 4), .int (fK 5), .int (fK 6), .int (fK 7)]))] _ := hP
  have hD : va_D A [(adK, .inr (2, [.int p0, .int p1, .int p2, .int (fK 3), .int (fK 4), .int (fK 5), .int (fK 6), .int (fK 7)]))] := hD
  refine lv_aload_n hx hb dX2_come_15 rfl (lv_at hl 0 rfl) ?_
  refine x_wv2 (a := ([(adK, .inr (2, [.int p0, .int p1, .int p2, .int (fK 3), .int (fK 4), .int (fK 5), .int (fK 6), .int (fK 7)]))] : va_W)) (t := []) (o0 := (F_X2_startPage (upd (upd (upd fK 0 p0) 1 p1) 2 p2))) (fun o : Nat → Int32 => ([(adK, .inr (2, [.int (o 0), .int (o 1), .int (o 2), .int (o 3), .int (o 4), .int (o 5), .int (o 6), .int (o 7)]))] : va_W)) (fun o : Nat → Int32 => ([(adK, .inr (2, [.int (o 0), .int (o 1), .int (o 2), .int (o 3), .int (o 4), .int (o 5), .int (o 6), .int (o 7)]))] : va_W)) [0] [] (va_runV (As := []) (rest := []) ⟨hx, hb, hml, hown, hts⟩ (c_X2_startPage l D cI cL adK (upd (upd (upd fK 0 p0) 1 p1) 2 p2) _) (cwV 0 hts (gv_ok (fun _ h => w_in h) wd_242 wd_239 wd_240 wd_241 wd_31) rfl rfl rfl (by decide +kernel) ⟨Nat.le_of_ble_eq_true rfl, Nat.le_of_ble_eq_true rfl⟩) (x_pv hN hK hP hD [0] rfl rfl (ci := 2) (q0 := 0) rfl rfl) rfl rfl hl.1 rfl (lv_room (Nat.le_of_ble_eq_true rfl)) dX2_come_16 ⟨Nat.zero_le _, Nat.zero_le _⟩) hP hD hS hA rfl (fun _ => rfl) (fun _ => rfl) [] rfl (fun _ => rfl) rfl (fun o_1 H locs eo_1 hP hD hS => ?_)
  have hP : va_P D vwCl [(adK, .inr (2, [.int (o_1 0), .int (o_1 1), .int (o_1 2), .int (o_1 3), .int (o_1 4), .int (o_1 5), .int (o_1 6), .int (o_1 7)]))] _ := hP
  have hD : va_D A [(adK, .inr (2, [.int (o_1 0), .int (o_1 1), .int (o_1 2), .int (o_1 3), .int (o_1 4), .int (o_1 5), .int (o_1 6), .int (o_1 7)]))] := hD
  have hF1 : F_X2_come fK p0 p1 p2 = o_1 := (eX2_come_1 fK p0 p1 p2 o_1 eo_1)
  exact xv_ret hx hb hr hlocks hP hS (congrArg (fun o : Nat → Int32 => ([(adK, .inr (2, [.int (o 0), .int (o 1), .int (o 2), .int (o 3), .int (o 4), .int (o 5), .int (o 6), .int (o 7)]))] : va_W)) hF1).symm dX2_come_19

noncomputable def F_X2_become (fK : Nat → Int32) (fT : Nat → Int32) : Nat → Int32 :=
  (upd (upd (upd (upd (upd (upd (upd (upd fK 0 (fT 0)) 1 (fT 1)) 2 (fT 2)) 3 (fT 3)) 4 (fT 4)) 5 (fT 5)) 6 (fT 6)) 7 (fT 7))
set_option maxHeartbeats 4000000 in
set_option maxRecDepth 100000 in
theorem c_X2_become (l : Launch) (D : va_G) (cI cL : ClassId)   (adK : Nat) (adT : Nat) (fK : Nat → Int32) (fT : Nat → Int32) (hz : zb (fT 7)) : Xv l yX2_become (wm yX2_become cX2_become 2 none) (xR (0) (0)) D (tyA cI cL) [.ref adK, .ref adT] [(adK, .inr (2, [.int (fK 0), .int (fK 1), .int (fK 2), .int (fK 3), .int (fK 4), .int (fK 5), .int (fK 6), .int (fK 7)])), (adT, .inr (2, [.int (fT 0), .int (fT 1), .int (fT 2), .int (fT 3), .int (fT 4), .int (fT 5), .int (fT 6), .int (fT 7)]))] [(adK, .inr (2, [.int ((F_X2_become fK fT) 0), .int ((F_X2_become fK fT) 1), .int ((F_X2_become fK fT) 2), .int ((F_X2_become fK fT) 3), .int ((F_X2_become fK fT) 4), .int ((F_X2_become fK fT) 5), .int ((F_X2_become fK fT) 6), .int ((F_X2_become fK fT) 7)])), (adT, .inr (2, [.int (fT 0), .int (fT 1), .int (fT 2), .int (fT 3), .int (fT 4), .int (fT 5), .int (fT 6), .int (fT 7)]))] := by
  intro sz
  refine x_in (cc := cX2_become) (maxL := 2) (ret := none) (by decide) rfl (Nat.le_of_ble_eq_true rfl) (fun p e s m below meth c A ls hfix hr hlocks hN hK hP hAe hD hA hS hl => ?_)
  obtain ⟨hx, hb, hml, hown, hts⟩ := hfix
  rw [← hAe]
  clear hAe
  have hown : s.vm.findClass RX2 = some m.cls := hown
  have htL : ∀ w ∈ wsL_law, w.before ([.ref adK, .ref adT] : List Value).toArray s = true := fun w h => hts w (List.mem_cons_of_mem _ h)
  have hl : lv_has ls 2 [(0, .ref adK), (1, .ref adT)] := hl
  refine lv_aload_n hx hb dX2_become_0 rfl (lv_at hl 0 rfl) ?_
  refine lv_aload_n hx hb dX2_become_1 rfl (lv_at hl 1 rfl) ?_
  refine va_get (D := D) (ci := 2) (v := .int (fT 0)) (C := RX2) (T := TX2) (N := 8) hx hb hts (fun _ h => w_in (inlX2 _ h)) hown hK hP 1 rfl rfl 0 (by decide) (htL _ wd_70) (fun _ h9 => h9) rfl dX2_become_2 ?_
  refine va_put (D := D) (ci := 2) (v := .int (fT 0)) (ty := .int) (C := RX2) (T := TX2) (N := 8) hx hb hts (fun _ h => w_in (inlX2 _ h)) tyX2 tyX2_ok nmX2 hown hK hP hD hS 0 rfl rfl 0 (by decide) (htL _ wd_70) (fun _ h9 => h9) rfl (by decide +kernel) rfl rfl (Nat.le_of_ble_eq_true rfl) dX2_become_5 (fun H locs hP hD hS => ?_)
  have hP : va_P D vwCl [(adK, .inr (2, [.int (fT 0), .int (fK 1), .int (fK 2), .int (fK 3), .int (fK 4), .int (fK 5), .int (fK 6), .int (fK 7)])), (adT, .inr (2, [.int (fT 0), .int (fT 1), .int (fT 2), .int (fT 3), .int (fT 4), .int (fT 5), .int (fT 6), .int (fT 7)]))] _ := hP
  have hD : va_D A [(adK, .inr (2, [.int (fT 0), .int (fK 1), .int (fK 2), .int (fK 3), .int (fK 4), .int (fK 5), .int (fK 6), .int (fK 7)])), (adT, .inr (2, [.int (fT 0), .int (fT 1), .int (fT 2), .int (fT 3), .int (fT 4), .int (fT 5), .int (fT 6), .int (fT 7)]))] := hD
  refine lv_aload_n hx hb dX2_become_8 rfl (lv_at hl 0 rfl) ?_
  refine lv_aload_n hx hb dX2_become_9 rfl (lv_at hl 1 rfl) ?_
  refine va_get (D := D) (ci := 2) (v := .int (fT 1)) (C := RX2) (T := TX2) (N := 8) hx hb hts (fun _ h => w_in (inlX2 _ h)) hown hK hP 1 rfl rfl 1 (by decide) (htL _ wd_71) (fun _ h9 => h9) rfl dX2_become_10 ?_
  refine va_put (D := D) (ci := 2) (v := .int (fT 1)) (ty := .int) (C := RX2) (T := TX2) (N := 8) hx hb hts (fun _ h => w_in (inlX2 _ h)) tyX2 tyX2_ok nmX2 hown hK hP hD hS 0 rfl rfl 1 (by decide) (htL _ wd_71) (fun _ h9 => h9) rfl (by decide +kernel) rfl rfl (Nat.le_of_ble_eq_true rfl) dX2_become_13 (fun H locs hP hD hS => ?_)
  have hP : va_P D vwCl [(adK, .inr (2, [.int (fT 0), .int (fT 1), .int (fK 2), .int (fK 3), .int (fK 4), .int (fK 5), .int (fK 6), .int (fK 7)])), (adT, .inr (2, [.int (fT 0), .int (fT 1), .int (fT 2), .int (fT 3), .int (fT 4), .int (fT 5), .int (fT 6), .int (fT 7)]))] _ := hP
  have hD : va_D A [(adK, .inr (2, [.int (fT 0), .int (fT 1), .int (fK 2), .int (fK 3), .int (fK 4), .int (fK 5), .int (fK 6), .int (fK 7)])), (adT, .inr (2, [.int (fT 0), .int (fT 1), .int (fT 2), .int (fT 3), .int (fT 4), .int (fT 5), .int (fT 6), .int (fT 7)]))] := hD
  refine lv_aload_n hx hb dX2_become_16 rfl (lv_at hl 0 rfl) ?_
  refine lv_aload_n hx hb dX2_become_17 rfl (lv_at hl 1 rfl) ?_
  refine va_get (D := D) (ci := 2) (v := .int (fT 2)) (C := RX2) (T := TX2) (N := 8) hx hb hts (fun _ h => w_in (inlX2 _ h)) hown hK hP 1 rfl rfl 2 (by decide) (htL _ wd_72) (fun _ h9 => h9) rfl dX2_become_18 ?_
  refine va_put (D := D) (ci := 2) (v := .int (fT 2)) (ty := .int) (C := RX2) (T := TX2) (N := 8) hx hb hts (fun _ h => w_in (inlX2 _ h)) tyX2 tyX2_ok nmX2 hown hK hP hD hS 0 rfl rfl 2 (by decide) (htL _ wd_72) (fun _ h9 => h9) rfl (by decide +kernel) rfl rfl (Nat.le_of_ble_eq_true rfl) dX2_become_21 (fun H locs hP hD hS => ?_)
  have hP : va_P D vwCl [(adK, .inr (2, [.int (fT 0), .int (fT 1), .int (fT 2), .int (fK 3), .int (fK 4), .int (fK 5), .int (fK 6), .int (fK 7)])), (adT, .inr (2, [.int (fT 0), .int (fT 1), .int (fT 2), .int (fT 3), .int (fT 4), .int (fT 5), .int (fT 6), .int (fT 7)]))] _ := hP
  have hD : va_D A [(adK, .inr (2, [.int (fT 0), .int (fT 1), .int (fT 2), .int (fK 3), .int (fK 4), .int (fK 5), .int (fK 6), .int (fK 7)])), (adT, .inr (2, [.int (fT 0), .int (fT 1), .int (fT 2), .int (fT 3), .int (fT 4), .int (fT 5), .int (fT 6), .int (fT 7)]))] := hD
  refine lv_aload_n hx hb dX2_become_24 rfl (lv_at hl 0 rfl) ?_
  refine lv_aload_n hx hb dX2_become_25 rfl (lv_at hl 1 rfl) ?_
  refine va_get (D := D) (ci := 2) (v := .int (fT 3)) (C := RX2) (T := TX2) (N := 8) hx hb hts (fun _ h => w_in (inlX2 _ h)) hown hK hP 1 rfl rfl 3 (by decide) (htL _ wd_73) (fun _ h9 => h9) rfl dX2_become_26 ?_
  refine va_put (D := D) (ci := 2) (v := .int (fT 3)) (ty := .int) (C := RX2) (T := TX2) (N := 8) hx hb hts (fun _ h => w_in (inlX2 _ h)) tyX2 tyX2_ok nmX2 hown hK hP hD hS 0 rfl rfl 3 (by decide) (htL _ wd_73) (fun _ h9 => h9) rfl (by decide +kernel) rfl rfl (Nat.le_of_ble_eq_true rfl) dX2_become_29 (fun H locs hP hD hS => ?_)
  have hP : va_P D vwCl [(adK, .inr (2, [.int (fT 0), .int (fT 1), .int (fT 2), .int (fT 3), .int (fK 4), .int (fK 5), .int (fK 6), .int (fK 7)])), (adT, .inr (2, [.int (fT 0), .int (fT 1), .int (fT 2), .int (fT 3), .int (fT 4), .int (fT 5), .int (fT 6), .int (fT 7)]))] _ := hP
  have hD : va_D A [(adK, .inr (2, [.int (fT 0), .int (fT 1), .int (fT 2), .int (fT 3), .int (fK 4), .int (fK 5), .int (fK 6), .int (fK 7)])), (adT, .inr (2, [.int (fT 0), .int (fT 1), .int (fT 2), .int (fT 3), .int (fT 4), .int (fT 5), .int (fT 6), .int (fT 7)]))] := hD
  refine lv_aload_n hx hb dX2_become_32 rfl (lv_at hl 0 rfl) ?_
  refine lv_aload_n hx hb dX2_become_33 rfl (lv_at hl 1 rfl) ?_
  refine va_get (D := D) (ci := 2) (v := .int (fT 4)) (C := RX2) (T := TX2) (N := 8) hx hb hts (fun _ h => w_in (inlX2 _ h)) hown hK hP 1 rfl rfl 4 (by decide) (htL _ wd_74) (fun _ h9 => h9) rfl dX2_become_34 ?_
  refine va_put (D := D) (ci := 2) (v := .int (fT 4)) (ty := .int) (C := RX2) (T := TX2) (N := 8) hx hb hts (fun _ h => w_in (inlX2 _ h)) tyX2 tyX2_ok nmX2 hown hK hP hD hS 0 rfl rfl 4 (by decide) (htL _ wd_74) (fun _ h9 => h9) rfl (by decide +kernel) rfl rfl (Nat.le_of_ble_eq_true rfl) dX2_become_37 (fun H locs hP hD hS => ?_)
  have hP : va_P D vwCl [(adK, .inr (2, [.int (fT 0), .int (fT 1), .int (fT 2), .int (fT 3), .int (fT 4), .int (fK 5), .int (fK 6), .int (fK 7)])), (adT, .inr (2, [.int (fT 0), .int (fT 1), .int (fT 2), .int (fT 3), .int (fT 4), .int (fT 5), .int (fT 6), .int (fT 7)]))] _ := hP
  have hD : va_D A [(adK, .inr (2, [.int (fT 0), .int (fT 1), .int (fT 2), .int (fT 3), .int (fT 4), .int (fK 5), .int (fK 6), .int (fK 7)])), (adT, .inr (2, [.int (fT 0), .int (fT 1), .int (fT 2), .int (fT 3), .int (fT 4), .int (fT 5), .int (fT 6), .int (fT 7)]))] := hD
  refine lv_aload_n hx hb dX2_become_40 rfl (lv_at hl 0 rfl) ?_
  refine lv_aload_n hx hb dX2_become_41 rfl (lv_at hl 1 rfl) ?_
  refine va_get (D := D) (ci := 2) (v := .int (fT 5)) (C := RX2) (T := TX2) (N := 8) hx hb hts (fun _ h => w_in (inlX2 _ h)) hown hK hP 1 rfl rfl 5 (by decide) (htL _ wd_75) (fun _ h9 => h9) rfl dX2_become_42 ?_
  refine va_put (D := D) (ci := 2) (v := .int (fT 5)) (ty := .int) (C := RX2) (T := TX2) (N := 8) hx hb hts (fun _ h => w_in (inlX2 _ h)) tyX2 tyX2_ok nmX2 hown hK hP hD hS 0 rfl rfl 5 (by decide) (htL _ wd_75) (fun _ h9 => h9) rfl (by decide +kernel) rfl rfl (Nat.le_of_ble_eq_true rfl) dX2_become_45 (fun H locs hP hD hS => ?_)
  have hP : va_P D vwCl [(adK, .inr (2, [.int (fT 0), .int (fT 1), .int (fT 2), .int (fT 3), .int (fT 4), .int (fT 5), .int (fK 6), .int (fK 7)])), (adT, .inr (2, [.int (fT 0), .int (fT 1), .int (fT 2), .int (fT 3), .int (fT 4), .int (fT 5), .int (fT 6), .int (fT 7)]))] _ := hP
  have hD : va_D A [(adK, .inr (2, [.int (fT 0), .int (fT 1), .int (fT 2), .int (fT 3), .int (fT 4), .int (fT 5), .int (fK 6), .int (fK 7)])), (adT, .inr (2, [.int (fT 0), .int (fT 1), .int (fT 2), .int (fT 3), .int (fT 4), .int (fT 5), .int (fT 6), .int (fT 7)]))] := hD
  refine lv_aload_n hx hb dX2_become_48 rfl (lv_at hl 0 rfl) ?_
  refine lv_aload_n hx hb dX2_become_49 rfl (lv_at hl 1 rfl) ?_
  refine va_get (D := D) (ci := 2) (v := .int (fT 6)) (C := RX2) (T := TX2) (N := 8) hx hb hts (fun _ h => w_in (inlX2 _ h)) hown hK hP 1 rfl rfl 6 (by decide) (htL _ wd_76) (fun _ h9 => h9) rfl dX2_become_50 ?_
  refine va_put (D := D) (ci := 2) (v := .int (fT 6)) (ty := .int) (C := RX2) (T := TX2) (N := 8) hx hb hts (fun _ h => w_in (inlX2 _ h)) tyX2 tyX2_ok nmX2 hown hK hP hD hS 0 rfl rfl 6 (by decide) (htL _ wd_76) (fun _ h9 => h9) rfl (by decide +kernel) rfl rfl (Nat.le_of_ble_eq_true rfl) dX2_become_53 (fun H locs hP hD hS => ?_)
  have hP : va_P D vwCl [(adK, .inr (2, [.int (fT 0), .int (fT 1), .int (fT 2), .int (fT 3), .int (fT 4), .int (fT 5), .int (fT 6), .int (fK 7)])), (adT, .inr (2, [.int (fT 0), .int (fT 1), .int (fT 2), .int (fT 3), .int (fT 4), .int (fT 5), .int (fT 6), .int (fT 7)]))] _ := hP
  have hD : va_D A [(adK, .inr (2, [.int (fT 0), .int (fT 1), .int (fT 2), .int (fT 3), .int (fT 4), .int (fT 5), .int (fT 6), .int (fK 7)])), (adT, .inr (2, [.int (fT 0), .int (fT 1), .int (fT 2), .int (fT 3), .int (fT 4), .int (fT 5), .int (fT 6), .int (fT 7)]))] := hD
  refine lv_aload_n hx hb dX2_become_56 rfl (lv_at hl 0 rfl) ?_
  refine lv_aload_n hx hb dX2_become_57 rfl (lv_at hl 1 rfl) ?_
  refine va_get (D := D) (ci := 2) (v := .int (fT 7)) (C := RX2) (T := TX2) (N := 8) hx hb hts (fun _ h => w_in (inlX2 _ h)) hown hK hP 1 rfl rfl 7 (by decide) (htL _ wd_77) (fun _ h9 => h9) rfl dX2_become_58 ?_
  refine va_put (D := D) (ci := 2) (v := .int (fT 7)) (ty := .boolean) (C := RX2) (T := TX2) (N := 8) hx hb hts (fun _ h => w_in (inlX2 _ h)) tyX2 tyX2_ok nmX2 hown hK hP hD hS 0 rfl rfl 7 (by decide) (htL _ wd_77) (fun _ h9 => h9) rfl (by decide +kernel) (show zb (fT 7) by assumption).1 (show zb (fT 7) by assumption).2 (Nat.le_of_ble_eq_true rfl) dX2_become_61 (fun H locs hP hD hS => ?_)
  have hP : va_P D vwCl [(adK, .inr (2, [.int (fT 0), .int (fT 1), .int (fT 2), .int (fT 3), .int (fT 4), .int (fT 5), .int (fT 6), .int (fT 7)])), (adT, .inr (2, [.int (fT 0), .int (fT 1), .int (fT 2), .int (fT 3), .int (fT 4), .int (fT 5), .int (fT 6), .int (fT 7)]))] _ := hP
  have hD : va_D A [(adK, .inr (2, [.int (fT 0), .int (fT 1), .int (fT 2), .int (fT 3), .int (fT 4), .int (fT 5), .int (fT 6), .int (fT 7)])), (adT, .inr (2, [.int (fT 0), .int (fT 1), .int (fT 2), .int (fT 3), .int (fT 4), .int (fT 5), .int (fT 6), .int (fT 7)]))] := hD
  have hF1 : F_X2_become fK fT = (upd (upd (upd (upd (upd (upd (upd (upd fK 0 (fT 0)) 1 (fT 1)) 2 (fT 2)) 3 (fT 3)) 4 (fT 4)) 5 (fT 5)) 6 (fT 6)) 7 (fT 7)) := rfl
  exact xv_ret hx hb hr hlocks hP hS (congrArg (fun o : Nat → Int32 => ([(adK, .inr (2, [.int (o 0), .int (o 1), .int (o 2), .int (o 3), .int (o 4), .int (o 5), .int (o 6), .int (o 7)])), (adT, .inr (2, [.int (fT 0), .int (fT 1), .int (fT 2), .int (fT 3), .int (fT 4), .int (fT 5), .int (fT 6), .int (fT 7)]))] : va_W)) hF1).symm dX2_become_64

noncomputable def F_X2_readOn (fK : Nat → Int32) (qS : Nat → Nat → Int32) (nS : Int32) (gB : Nat → Int32) (p0 : Int32) : Int32 × (Nat → Int32) :=
  if p0 < 0 then
  (((-3), fK))
  else
  (if 4 ≤ p0 then
  (((-3), fK))
  else
  (let r_3 : Int32 := (F_X0_columnsFor gB (fK 0))
  let x_4 : Int32 := (r_3 >>> (p0 &&& 31))
  let x_5 : Int32 := (x_4 &&& 1)
  if x_5 = 0 then
  (((-3), fK))
  else
  (if (fK 7) = 0 then
  (let r_8 : Int32 := (F_X5_nextLine qS nS p0 (fK 6))
  if r_8 = (-9) then
  (((-3), fK))
  else
  (let r_10 : Int32 := (F_X5_costOf qS nS r_8 (fK 1))
  let x_11 : Int32 := ((fK 3) + r_10)
  let x_12 : Int32 := ((fK 4) + r_10)
  if x_12 ≤ (fK 2) then
  (let r_14 : Int32 := (F_X0_turnsAt gB (fK 5))
  if x_11 ≤ r_14 then
  (let x_16 : Int32 := (1 <<< (r_8 &&& 31))
  let x_17 : Int32 := ((fK 6) ||| x_16)
  (r_8, (upd (upd (upd fK 3 x_11) 4 x_12) 6 x_17)))
  else
  (((-9), (upd (upd (upd fK 3 x_11) 4 x_12) 7 1))))
  else
  (let x_18 : Int32 := ((fK 5) + 1)
  let r_19 : Int32 := (F_X0_turnsAt gB x_18)
  if x_11 ≤ r_19 then
  (let x_21 : Int32 := (1 <<< (r_8 &&& 31))
  let x_22 : Int32 := ((fK 6) ||| x_21)
  (r_8, (upd (upd (upd (upd fK 3 x_11) 4 0) 5 x_18) 6 x_22)))
  else
  (((-9), (upd (upd (upd (upd fK 3 x_11) 4 0) 5 x_18) 7 1))))))
  else
  (((-3), fK)))))
set_option maxRecDepth 100000 in
theorem eX2_readOn_1 (fK : Nat → Int32) (qS : Nat → Nat → Int32) (nS : Int32) (gB : Nat → Int32) (p0 : Int32) (c_1 : p0 < 0) : F_X2_readOn fK qS nS gB p0 = ((-3), fK) := by exact (if_pos c_1).trans (rfl)
set_option maxRecDepth 100000 in
theorem eX2_readOn_2 (fK : Nat → Int32) (qS : Nat → Nat → Int32) (nS : Int32) (gB : Nat → Int32) (p0 : Int32) (c_1 : ¬ (p0 < 0)) (c_2 : 4 ≤ p0) : F_X2_readOn fK qS nS gB p0 = ((-3), fK) := by exact (if_neg c_1).trans ((if_pos c_2).trans (rfl))
set_option maxRecDepth 100000 in
theorem eX2_readOn_3 (fK : Nat → Int32) (qS : Nat → Nat → Int32) (nS : Int32) (gB : Nat → Int32) (p0 : Int32) (r_3 : Int32) (x_4 : Int32) (x_5 : Int32) (er_3 : r_3 = (F_X0_columnsFor gB (fK 0))) (ex_4 : x_4 = (r_3 >>> (p0 &&& 31))) (ex_5 : x_5 = (x_4 &&& 1)) (c_1 : ¬ (p0 < 0)) (c_2 : ¬ (4 ≤ p0)) (c_6 : x_5 = 0) : F_X2_readOn fK qS nS gB p0 = ((-3), fK) := by subst er_3 ex_4 ex_5; exact (if_neg c_1).trans ((if_neg c_2).trans ((if_pos c_6).trans (rfl)))
set_option maxRecDepth 100000 in
theorem eX2_readOn_4 (fK : Nat → Int32) (qS : Nat → Nat → Int32) (nS : Int32) (gB : Nat → Int32) (p0 : Int32) (r_3 : Int32) (x_4 : Int32) (x_5 : Int32) (er_3 : r_3 = (F_X0_columnsFor gB (fK 0))) (ex_4 : x_4 = (r_3 >>> (p0 &&& 31))) (ex_5 : x_5 = (x_4 &&& 1)) (c_1 : ¬ (p0 < 0)) (c_2 : ¬ (4 ≤ p0)) (c_6 : ¬ (x_5 = 0)) (c_7 : ¬ ((fK 7) = 0)) : F_X2_readOn fK qS nS gB p0 = ((-3), fK) := by subst er_3 ex_4 ex_5; exact (if_neg c_1).trans ((if_neg c_2).trans ((if_neg c_6).trans ((if_neg c_7).trans (rfl))))
set_option maxRecDepth 100000 in
theorem eX2_readOn_5 (fK : Nat → Int32) (qS : Nat → Nat → Int32) (nS : Int32) (gB : Nat → Int32) (p0 : Int32) (r_3 : Int32) (x_4 : Int32) (x_5 : Int32) (r_8 : Int32) (r_10 : Int32) (x_11 : Int32) (x_12 : Int32) (r_14 : Int32) (x_16 : Int32) (x_17 : Int32) (er_3 : r_3 = (F_X0_columnsFor gB (fK 0))) (ex_4 : x_4 = (r_3 >>> (p0 &&& 31))) (ex_5 : x_5 = (x_4 &&& 1)) (er_8 : r_8 = (F_X5_nextLine qS nS p0 (fK 6))) (er_10 : r_10 = (F_X5_costOf qS nS r_8 (fK 1))) (ex_11 : x_11 = ((fK 3) + r_10)) (ex_12 : x_12 = ((fK 4) + r_10)) (er_14 : r_14 = (F_X0_turnsAt gB (fK 5))) (ex_16 : x_16 = (1 <<< (r_8 &&& 31))) (ex_17 : x_17 = ((fK 6) ||| x_16)) (c_1 : ¬ (p0 < 0)) (c_2 : ¬ (4 ≤ p0)) (c_6 : ¬ (x_5 = 0)) (c_7 : (fK 7) = 0) (c_9 : ¬ (r_8 = (-9))) (c_13 : x_12 ≤ (fK 2)) (c_15 : x_11 ≤ r_14) : F_X2_readOn fK qS nS gB p0 = (r_8, (upd (upd (upd fK 3 x_11) 4 x_12) 6 x_17)) := by subst er_3 ex_4 ex_5 er_8 er_10 ex_11 ex_12 er_14 ex_16 ex_17; exact (if_neg c_1).trans ((if_neg c_2).trans ((if_neg c_6).trans ((if_pos c_7).trans ((if_neg c_9).trans ((if_pos c_13).trans ((if_pos c_15).trans (rfl)))))))
set_option maxRecDepth 100000 in
theorem eX2_readOn_6 (fK : Nat → Int32) (qS : Nat → Nat → Int32) (nS : Int32) (gB : Nat → Int32) (p0 : Int32) (r_3 : Int32) (x_4 : Int32) (x_5 : Int32) (r_8 : Int32) (r_10 : Int32) (x_11 : Int32) (x_12 : Int32) (r_14 : Int32) (er_3 : r_3 = (F_X0_columnsFor gB (fK 0))) (ex_4 : x_4 = (r_3 >>> (p0 &&& 31))) (ex_5 : x_5 = (x_4 &&& 1)) (er_8 : r_8 = (F_X5_nextLine qS nS p0 (fK 6))) (er_10 : r_10 = (F_X5_costOf qS nS r_8 (fK 1))) (ex_11 : x_11 = ((fK 3) + r_10)) (ex_12 : x_12 = ((fK 4) + r_10)) (er_14 : r_14 = (F_X0_turnsAt gB (fK 5))) (c_1 : ¬ (p0 < 0)) (c_2 : ¬ (4 ≤ p0)) (c_6 : ¬ (x_5 = 0)) (c_7 : (fK 7) = 0) (c_9 : ¬ (r_8 = (-9))) (c_13 : x_12 ≤ (fK 2)) (c_15 : ¬ (x_11 ≤ r_14)) : F_X2_readOn fK qS nS gB p0 = ((-9), (upd (upd (upd fK 3 x_11) 4 x_12) 7 1)) := by subst er_3 ex_4 ex_5 er_8 er_10 ex_11 ex_12 er_14; exact (if_neg c_1).trans ((if_neg c_2).trans ((if_neg c_6).trans ((if_pos c_7).trans ((if_neg c_9).trans ((if_pos c_13).trans ((if_neg c_15).trans (rfl)))))))
set_option maxRecDepth 100000 in
theorem eX2_readOn_7 (fK : Nat → Int32) (qS : Nat → Nat → Int32) (nS : Int32) (gB : Nat → Int32) (p0 : Int32) (r_3 : Int32) (x_4 : Int32) (x_5 : Int32) (r_8 : Int32) (r_10 : Int32) (x_11 : Int32) (x_12 : Int32) (x_18 : Int32) (r_19 : Int32) (x_21 : Int32) (x_22 : Int32) (er_3 : r_3 = (F_X0_columnsFor gB (fK 0))) (ex_4 : x_4 = (r_3 >>> (p0 &&& 31))) (ex_5 : x_5 = (x_4 &&& 1)) (er_8 : r_8 = (F_X5_nextLine qS nS p0 (fK 6))) (er_10 : r_10 = (F_X5_costOf qS nS r_8 (fK 1))) (ex_11 : x_11 = ((fK 3) + r_10)) (ex_12 : x_12 = ((fK 4) + r_10)) (ex_18 : x_18 = ((fK 5) + 1)) (er_19 : r_19 = (F_X0_turnsAt gB x_18)) (ex_21 : x_21 = (1 <<< (r_8 &&& 31))) (ex_22 : x_22 = ((fK 6) ||| x_21)) (c_1 : ¬ (p0 < 0)) (c_2 : ¬ (4 ≤ p0)) (c_6 : ¬ (x_5 = 0)) (c_7 : (fK 7) = 0) (c_9 : ¬ (r_8 = (-9))) (c_13 : ¬ (x_12 ≤ (fK 2))) (c_20 : x_11 ≤ r_19) : F_X2_readOn fK qS nS gB p0 = (r_8, (upd (upd (upd (upd fK 3 x_11) 4 0) 5 x_18) 6 x_22)) := by subst er_3 ex_4 ex_5 er_8 er_10 ex_11 ex_12 ex_18 er_19 ex_21 ex_22; exact (if_neg c_1).trans ((if_neg c_2).trans ((if_neg c_6).trans ((if_pos c_7).trans ((if_neg c_9).trans ((if_neg c_13).trans ((if_pos c_20).trans (rfl)))))))
set_option maxRecDepth 100000 in
theorem eX2_readOn_8 (fK : Nat → Int32) (qS : Nat → Nat → Int32) (nS : Int32) (gB : Nat → Int32) (p0 : Int32) (r_3 : Int32) (x_4 : Int32) (x_5 : Int32) (r_8 : Int32) (r_10 : Int32) (x_11 : Int32) (x_12 : Int32) (x_18 : Int32) (r_19 : Int32) (er_3 : r_3 = (F_X0_columnsFor gB (fK 0))) (ex_4 : x_4 = (r_3 >>> (p0 &&& 31))) (ex_5 : x_5 = (x_4 &&& 1)) (er_8 : r_8 = (F_X5_nextLine qS nS p0 (fK 6))) (er_10 : r_10 = (F_X5_costOf qS nS r_8 (fK 1))) (ex_11 : x_11 = ((fK 3) + r_10)) (ex_12 : x_12 = ((fK 4) + r_10)) (ex_18 : x_18 = ((fK 5) + 1)) (er_19 : r_19 = (F_X0_turnsAt gB x_18)) (c_1 : ¬ (p0 < 0)) (c_2 : ¬ (4 ≤ p0)) (c_6 : ¬ (x_5 = 0)) (c_7 : (fK 7) = 0) (c_9 : ¬ (r_8 = (-9))) (c_13 : ¬ (x_12 ≤ (fK 2))) (c_20 : ¬ (x_11 ≤ r_19)) : F_X2_readOn fK qS nS gB p0 = ((-9), (upd (upd (upd (upd fK 3 x_11) 4 0) 5 x_18) 7 1)) := by subst er_3 ex_4 ex_5 er_8 er_10 ex_11 ex_12 ex_18 er_19; exact (if_neg c_1).trans ((if_neg c_2).trans ((if_neg c_6).trans ((if_pos c_7).trans ((if_neg c_9).trans ((if_neg c_13).trans ((if_neg c_20).trans (rfl)))))))
set_option maxRecDepth 100000 in
theorem eX2_readOn_9 (fK : Nat → Int32) (qS : Nat → Nat → Int32) (nS : Int32) (gB : Nat → Int32) (p0 : Int32) (r_3 : Int32) (x_4 : Int32) (x_5 : Int32) (r_8 : Int32) (er_3 : r_3 = (F_X0_columnsFor gB (fK 0))) (ex_4 : x_4 = (r_3 >>> (p0 &&& 31))) (ex_5 : x_5 = (x_4 &&& 1)) (er_8 : r_8 = (F_X5_nextLine qS nS p0 (fK 6))) (c_1 : ¬ (p0 < 0)) (c_2 : ¬ (4 ≤ p0)) (c_6 : ¬ (x_5 = 0)) (c_7 : (fK 7) = 0) (c_9 : r_8 = (-9)) : F_X2_readOn fK qS nS gB p0 = ((-3), fK) := by subst er_3 ex_4 ex_5 er_8; exact (if_neg c_1).trans ((if_neg c_2).trans ((if_neg c_6).trans ((if_pos c_7).trans ((if_pos c_9).trans (rfl)))))
set_option maxHeartbeats 4000000 in
set_option maxRecDepth 100000 in
theorem c_X2_readOn (l : Launch) (D : va_G) (cI cL : ClassId)   (adK : Nat) (adS : Nat) (rS : Nat → Nat) (adB : Nat) (fK : Nat → Int32) (qS : Nat → Nat → Int32) (nS : Int32) (gB : Nat → Int32) (p0 : Int32)  : Xi l yX2_readOn (wm yX2_readOn cX2_readOn 7 (some .int)) (xR (3) (67)) D (tyA cI cL) [.ref adK, .ref adS, .ref adB, .int p0] [(adK, .inr (2, [.int (fK 0), .int (fK 1), .int (fK 2), .int (fK 3), .int (fK 4), .int (fK 5), .int (fK 6), .int (fK 7)])), (adS, .inr (5, [.ref (rS 0), .ref (rS 1), .ref (rS 2), .ref (rS 3), .int nS])), ((rS 0), .inl (cI, 8, .inl (qS 0))), ((rS 1), .inl (cI, 8, .inl (qS 1))), ((rS 2), .inl (cI, 8, .inl (qS 2))), ((rS 3), .inl (cI, 8, .inl (qS 3))), (adB, .inr (0, [.int (gB 0), .int (gB 1), .int (gB 2), .int (gB 3), .int (gB 4)]))] [(adK, .inr (2, [.int ((F_X2_readOn fK qS nS gB p0).2 0), .int ((F_X2_readOn fK qS nS gB p0).2 1), .int ((F_X2_readOn fK qS nS gB p0).2 2), .int ((F_X2_readOn fK qS nS gB p0).2 3), .int ((F_X2_readOn fK qS nS gB p0).2 4), .int ((F_X2_readOn fK qS nS gB p0).2 5), .int ((F_X2_readOn fK qS nS gB p0).2 6), .int ((F_X2_readOn fK qS nS gB p0).2 7)])), (adS, .inr (5, [.ref (rS 0), .ref (rS 1), .ref (rS 2), .ref (rS 3), .int nS])), ((rS 0), .inl (cI, 8, .inl (qS 0))), ((rS 1), .inl (cI, 8, .inl (qS 1))), ((rS 2), .inl (cI, 8, .inl (qS 2))), ((rS 3), .inl (cI, 8, .inl (qS 3))), (adB, .inr (0, [.int (gB 0), .int (gB 1), .int (gB 2), .int (gB 3), .int (gB 4)]))] (F_X2_readOn fK qS nS gB p0).1 := by
  intro sz
  refine x_in (cc := cX2_readOn) (maxL := 7) (ret := (some .int)) (by decide) rfl (Nat.le_of_ble_eq_true rfl) (fun p e s m below meth c A ls hfix hr hlocks hN hK hP hAe hD hA hS hl => ?_)
  obtain ⟨hx, hb, hml, hown, hts⟩ := hfix
  rw [← hAe]
  clear hAe
  have hown : s.vm.findClass RX2 = some m.cls := hown
  have htL : ∀ w ∈ wsL_law, w.before ([.ref adK, .ref adS, .ref adB, .int p0] : List Value).toArray s = true := fun w h => hts w (List.mem_cons_of_mem _ h)
  have hl : lv_has ls 7 [(0, .ref adK), (1, .ref adS), (2, .ref adB), (3, .int p0)] := hl
  refine lv_iload_n hx hb dX2_readOn_0 rfl (lv_at hl 3 rfl) ?_
  refine lv_if_lt (tgt := 28) hx hb dX2_readOn_1 (by decide) (fun c_1 => ?_) (fun c_1 => ?_)
  · refine lv_iconst (v := 0) hx hb dX2_readOn_28 (by decide) ?_
    refine lv_istore (lv' := [(4, .int 0), (0, .ref adK), (1, .ref adS), (2, .ref adB), (3, .int p0)]) hx hb dX2_readOn_29 hl (by decide) rfl (fun ls hl => ?_)
    refine lv_iload hx hb dX2_readOn_31 (lv_at hl 0 rfl) ?_
    refine lv_if_eq (tgt := 55) hx hb dX2_readOn_33 (by decide) (fun _ => ?_) (fun c9 => absurd c9 (by decide))
    refine lv_bipush (v := (-9)) hx hb dX2_readOn_55 (by decide) ?_
    refine lv_istore (lv' := [(5, .int (-9)), (4, .int 0), (0, .ref adK), (1, .ref adS), (2, .ref adB), (3, .int p0)]) hx hb dX2_readOn_57 hl (by decide) rfl (fun ls hl => ?_)
    refine lv_iload hx hb dX2_readOn_59 (lv_at hl 0 rfl) ?_
    refine lv_bipush (v := (-9)) hx hb dX2_readOn_61 (by decide) ?_
    refine lv_icmp_ne (tgt := 69) hx hb dX2_readOn_63 (by decide) (fun c9 => absurd c9 (by decide)) (fun _ => ?_)
    refine lv_bipush (v := (-3)) hx hb dX2_readOn_66 (by decide) ?_
    have hF1 : F_X2_readOn fK qS nS gB p0 = ((-3), fK) := (eX2_readOn_1 fK qS nS gB p0 c_1)
    exact xi_ret hx hb hr hlocks hP hS (congrArg (fun o : Int32 × (Nat → Int32) => ([(adK, .inr (2, [.int (o.2 0), .int (o.2 1), .int (o.2 2), .int (o.2 3), .int (o.2 4), .int (o.2 5), .int (o.2 6), .int (o.2 7)])), (adS, .inr (5, [.ref (rS 0), .ref (rS 1), .ref (rS 2), .ref (rS 3), .int nS])), ((rS 0), .inl (cI, 8, .inl (qS 0))), ((rS 1), .inl (cI, 8, .inl (qS 1))), ((rS 2), .inl (cI, 8, .inl (qS 2))), ((rS 3), .inl (cI, 8, .inl (qS 3))), (adB, .inr (0, [.int (gB 0), .int (gB 1), .int (gB 2), .int (gB 3), .int (gB 4)]))] : va_W)) hF1).symm (congrArg (fun o : Int32 × (Nat → Int32) => o.1) hF1).symm dX2_readOn_68
  · refine lv_iload_n hx hb dX2_readOn_4 rfl (lv_at hl 3 rfl) ?_
    refine lv_iconst (v := 4) hx hb dX2_readOn_5 (by decide) ?_
    refine lv_icmp_ge (tgt := 28) hx hb dX2_readOn_6 (by decide) (fun c_2 => ?_) (fun c_2 => ?_)
    · refine lv_iconst (v := 0) hx hb dX2_readOn_28 (by decide) ?_
      refine lv_istore (lv' := [(4, .int 0), (0, .ref adK), (1, .ref adS), (2, .ref adB), (3, .int p0)]) hx hb dX2_readOn_29 hl (by decide) rfl (fun ls hl => ?_)
      refine lv_iload hx hb dX2_readOn_31 (lv_at hl 0 rfl) ?_
      refine lv_if_eq (tgt := 55) hx hb dX2_readOn_33 (by decide) (fun _ => ?_) (fun c9 => absurd c9 (by decide))
      refine lv_bipush (v := (-9)) hx hb dX2_readOn_55 (by decide) ?_
      refine lv_istore (lv' := [(5, .int (-9)), (4, .int 0), (0, .ref adK), (1, .ref adS), (2, .ref adB), (3, .int p0)]) hx hb dX2_readOn_57 hl (by decide) rfl (fun ls hl => ?_)
      refine lv_iload hx hb dX2_readOn_59 (lv_at hl 0 rfl) ?_
      refine lv_bipush (v := (-9)) hx hb dX2_readOn_61 (by decide) ?_
      refine lv_icmp_ne (tgt := 69) hx hb dX2_readOn_63 (by decide) (fun c9 => absurd c9 (by decide)) (fun _ => ?_)
      refine lv_bipush (v := (-3)) hx hb dX2_readOn_66 (by decide) ?_
      have hF1 : F_X2_readOn fK qS nS gB p0 = ((-3), fK) := (eX2_readOn_2 fK qS nS gB p0 c_1 c_2)
      exact xi_ret hx hb hr hlocks hP hS (congrArg (fun o : Int32 × (Nat → Int32) => ([(adK, .inr (2, [.int (o.2 0), .int (o.2 1), .int (o.2 2), .int (o.2 3), .int (o.2 4), .int (o.2 5), .int (o.2 6), .int (o.2 7)])), (adS, .inr (5, [.ref (rS 0), .ref (rS 1), .ref (rS 2), .ref (rS 3), .int nS])), ((rS 0), .inl (cI, 8, .inl (qS 0))), ((rS 1), .inl (cI, 8, .inl (qS 1))), ((rS 2), .inl (cI, 8, .inl (qS 2))), ((rS 3), .inl (cI, 8, .inl (qS 3))), (adB, .inr (0, [.int (gB 0), .int (gB 1), .int (gB 2), .int (gB 3), .int (gB 4)]))] : va_W)) hF1).symm (congrArg (fun o : Int32 × (Nat → Int32) => o.1) hF1).symm dX2_readOn_68
    · refine lv_aload_n hx hb dX2_readOn_9 rfl (lv_at hl 2 rfl) ?_
      refine lv_aload_n hx hb dX2_readOn_10 rfl (lv_at hl 0 rfl) ?_
      refine va_get (D := D) (ci := 2) (v := .int (fK 0)) (C := RX2) (T := TX2) (N := 8) hx hb hts (fun _ h => w_in (inlX2 _ h)) hown hK hP 0 rfl rfl 0 (by decide) (htL _ wd_70) (fun _ h9 => h9) rfl dX2_readOn_11 ?_
      refine x_ci [6] (va_runV (As := [.int (fK 0)]) (rest := []) ⟨hx, hb, hml, hown, hts⟩ (c_X0_columnsFor l D cI cL adB gB (fK 0) _) (cwV 1 hts (gv_ok (fun _ h => w_in h) wd_444 wd_492 wd_442 wd_443 wd_27) rfl rfl rfl (by decide +kernel) ⟨Nat.le_of_ble_eq_true rfl, Nat.le_of_ble_eq_true rfl⟩) (x_pv hN hK hP hD [6] rfl rfl (ci := 0) (q0 := 6) rfl rfl) rfl rfl hl.1 rfl (lv_room (Nat.le_of_ble_eq_true rfl)) dX2_readOn_14 ⟨Nat.zero_le _, Nat.zero_le _⟩) hP hD hS hA rfl (fun r_3 H locs er_3 hP hS => ?_)
      refine lv_iload_n hx hb dX2_readOn_17 rfl (lv_at hl 3 rfl) ?_
      refine lv_ishr hx hb dX2_readOn_18 ?_
      refine lv_topi (fun x_4 ex_4 => ?_)
      refine lv_iconst (v := 1) hx hb dX2_readOn_19 (by decide) ?_
      refine lv_iand hx hb dX2_readOn_20 ?_
      refine lv_topi (fun x_5 ex_5 => ?_)
      refine lv_if_eq (tgt := 28) hx hb dX2_readOn_21 (by decide) (fun c_6 => ?_) (fun c_6 => ?_)
      · refine lv_iconst (v := 0) hx hb dX2_readOn_28 (by decide) ?_
        refine lv_istore (lv' := [(4, .int 0), (0, .ref adK), (1, .ref adS), (2, .ref adB), (3, .int p0)]) hx hb dX2_readOn_29 hl (by decide) rfl (fun ls hl => ?_)
        refine lv_iload hx hb dX2_readOn_31 (lv_at hl 0 rfl) ?_
        refine lv_if_eq (tgt := 55) hx hb dX2_readOn_33 (by decide) (fun _ => ?_) (fun c9 => absurd c9 (by decide))
        refine lv_bipush (v := (-9)) hx hb dX2_readOn_55 (by decide) ?_
        refine lv_istore (lv' := [(5, .int (-9)), (4, .int 0), (0, .ref adK), (1, .ref adS), (2, .ref adB), (3, .int p0)]) hx hb dX2_readOn_57 hl (by decide) rfl (fun ls hl => ?_)
        refine lv_iload hx hb dX2_readOn_59 (lv_at hl 0 rfl) ?_
        refine lv_bipush (v := (-9)) hx hb dX2_readOn_61 (by decide) ?_
        refine lv_icmp_ne (tgt := 69) hx hb dX2_readOn_63 (by decide) (fun c9 => absurd c9 (by decide)) (fun _ => ?_)
        refine lv_bipush (v := (-3)) hx hb dX2_readOn_66 (by decide) ?_
        have hF1 : F_X2_readOn fK qS nS gB p0 = ((-3), fK) := (eX2_readOn_3 fK qS nS gB p0 r_3 x_4 x_5 er_3 ex_4 ex_5 c_1 c_2 c_6)
        exact xi_ret hx hb hr hlocks hP hS (congrArg (fun o : Int32 × (Nat → Int32) => ([(adK, .inr (2, [.int (o.2 0), .int (o.2 1), .int (o.2 2), .int (o.2 3), .int (o.2 4), .int (o.2 5), .int (o.2 6), .int (o.2 7)])), (adS, .inr (5, [.ref (rS 0), .ref (rS 1), .ref (rS 2), .ref (rS 3), .int nS])), ((rS 0), .inl (cI, 8, .inl (qS 0))), ((rS 1), .inl (cI, 8, .inl (qS 1))), ((rS 2), .inl (cI, 8, .inl (qS 2))), ((rS 3), .inl (cI, 8, .inl (qS 3))), (adB, .inr (0, [.int (gB 0), .int (gB 1), .int (gB 2), .int (gB 3), .int (gB 4)]))] : va_W)) hF1).symm (congrArg (fun o : Int32 × (Nat → Int32) => o.1) hF1).symm dX2_readOn_68
      · refine lv_iconst (v := 1) hx hb dX2_readOn_24 (by decide) ?_
        refine lv_goto (tgt := 29) hx hb dX2_readOn_25 (by decide) ?_
        refine lv_istore (lv' := [(4, .int 1), (0, .ref adK), (1, .ref adS), (2, .ref adB), (3, .int p0)]) hx hb dX2_readOn_29 hl (by decide) rfl (fun ls hl => ?_)
        refine lv_iload hx hb dX2_readOn_31 (lv_at hl 0 rfl) ?_
        refine lv_if_eq (tgt := 55) hx hb dX2_readOn_33 (by decide) (fun c9 => absurd c9 (by decide)) (fun _ => ?_)
        refine lv_aload_n hx hb dX2_readOn_36 rfl (lv_at hl 1 rfl) ?_
        refine va_get (D := D) (ci := 2) (v := .int (fK 7)) (C := RX2) (T := TX2) (N := 8) hx hb hts (fun _ h => w_in (inlX2 _ h)) hown hK hP 0 rfl rfl 7 (by decide) (htL _ wd_77) (fun _ h9 => h9) rfl dX2_readOn_37 ?_
        refine lv_if_ne (tgt := 55) hx hb dX2_readOn_40 (by decide) (fun c_7 => ?_) (fun c_7 => ?_)
        · refine lv_bipush (v := (-9)) hx hb dX2_readOn_55 (by decide) ?_
          refine lv_istore (lv' := [(5, .int (-9)), (4, .int 1), (0, .ref adK), (1, .ref adS), (2, .ref adB), (3, .int p0)]) hx hb dX2_readOn_57 hl (by decide) rfl (fun ls hl => ?_)
          refine lv_iload hx hb dX2_readOn_59 (lv_at hl 0 rfl) ?_
          refine lv_bipush (v := (-9)) hx hb dX2_readOn_61 (by decide) ?_
          refine lv_icmp_ne (tgt := 69) hx hb dX2_readOn_63 (by decide) (fun c9 => absurd c9 (by decide)) (fun _ => ?_)
          refine lv_bipush (v := (-3)) hx hb dX2_readOn_66 (by decide) ?_
          have hF1 : F_X2_readOn fK qS nS gB p0 = ((-3), fK) := (eX2_readOn_4 fK qS nS gB p0 r_3 x_4 x_5 er_3 ex_4 ex_5 c_1 c_2 c_6 c_7)
          exact xi_ret hx hb hr hlocks hP hS (congrArg (fun o : Int32 × (Nat → Int32) => ([(adK, .inr (2, [.int (o.2 0), .int (o.2 1), .int (o.2 2), .int (o.2 3), .int (o.2 4), .int (o.2 5), .int (o.2 6), .int (o.2 7)])), (adS, .inr (5, [.ref (rS 0), .ref (rS 1), .ref (rS 2), .ref (rS 3), .int nS])), ((rS 0), .inl (cI, 8, .inl (qS 0))), ((rS 1), .inl (cI, 8, .inl (qS 1))), ((rS 2), .inl (cI, 8, .inl (qS 2))), ((rS 3), .inl (cI, 8, .inl (qS 3))), (adB, .inr (0, [.int (gB 0), .int (gB 1), .int (gB 2), .int (gB 3), .int (gB 4)]))] : va_W)) hF1).symm (congrArg (fun o : Int32 × (Nat → Int32) => o.1) hF1).symm dX2_readOn_68
        · refine lv_aload_n hx hb dX2_readOn_43 rfl (lv_at hl 2 rfl) ?_
          refine lv_iload_n hx hb dX2_readOn_44 rfl (lv_at hl 4 rfl) ?_
          refine lv_aload_n hx hb dX2_readOn_45 rfl (lv_at hl 1 rfl) ?_
          refine va_get (D := D) (ci := 2) (v := .int (fK 6)) (C := RX2) (T := TX2) (N := 8) hx hb hts (fun _ h => w_in (inlX2 _ h)) hown hK hP 0 rfl rfl 6 (by decide) (htL _ wd_76) (fun _ h9 => h9) rfl dX2_readOn_46 ?_
          refine x_ci [1, 2, 3, 4, 5] (va_runV (As := [.int p0, .int (fK 6)]) (rest := []) ⟨hx, hb, hml, hown, hts⟩ (c_X5_nextLine l D cI cL adS rS qS nS p0 (fK 6) _) (cwV 2 hts (gv_ok (fun _ h => w_in h) wd_496 wd_493 wd_494 wd_495 wd_44) rfl rfl rfl (by decide +kernel) ⟨Nat.le_of_ble_eq_true rfl, Nat.le_of_ble_eq_true rfl⟩) (x_pv hN hK hP hD [1, 2, 3, 4, 5] rfl rfl (ci := 5) (q0 := 1) rfl rfl) rfl rfl hl.1 rfl (lv_room (Nat.le_of_ble_eq_true rfl)) dX2_readOn_49 ⟨Nat.zero_le _, Nat.zero_le _⟩) hP hD hS hA rfl (fun r_8 H locs er_8 hP hS => ?_)
          refine lv_goto (tgt := 57) hx hb dX2_readOn_52 (by decide) ?_
          refine lv_istore (lv' := [(5, .int r_8), (4, .int 1), (0, .ref adK), (1, .ref adS), (2, .ref adB), (3, .int p0)]) hx hb dX2_readOn_57 hl (by decide) rfl (fun ls hl => ?_)
          refine lv_iload hx hb dX2_readOn_59 (lv_at hl 0 rfl) ?_
          refine lv_bipush (v := (-9)) hx hb dX2_readOn_61 (by decide) ?_
          refine lv_icmp_ne (tgt := 69) hx hb dX2_readOn_63 (by decide) (fun c_9 => ?_) (fun c_9 => ?_)
          · refine lv_aload_n hx hb dX2_readOn_69 rfl (lv_at hl 3 rfl) ?_
            refine lv_iload hx hb dX2_readOn_70 (lv_at hl 0 rfl) ?_
            refine lv_aload_n hx hb dX2_readOn_72 rfl (lv_at hl 2 rfl) ?_
            refine va_get (D := D) (ci := 2) (v := .int (fK 1)) (C := RX2) (T := TX2) (N := 8) hx hb hts (fun _ h => w_in (inlX2 _ h)) hown hK hP 0 rfl rfl 1 (by decide) (htL _ wd_71) (fun _ h9 => h9) rfl dX2_readOn_73 ?_
            refine x_ci [1, 2, 3, 4, 5] (va_runV (As := [.int r_8, .int (fK 1)]) (rest := []) ⟨hx, hb, hml, hown, hts⟩ (c_X5_costOf l D cI cL adS rS qS nS r_8 (fK 1) _) (cwV 2 hts (gv_ok (fun _ h => w_in h) wd_423 wd_498 wd_421 wd_422 wd_44) rfl rfl rfl (by decide +kernel) ⟨Nat.le_of_ble_eq_true rfl, Nat.le_of_ble_eq_true rfl⟩) (x_pv hN hK hP hD [1, 2, 3, 4, 5] rfl rfl (ci := 5) (q0 := 1) rfl rfl) rfl rfl hl.1 rfl (lv_room (Nat.le_of_ble_eq_true rfl)) dX2_readOn_76 ⟨Nat.zero_le _, Nat.zero_le _⟩) hP hD hS hA rfl (fun r_10 H locs er_10 hP hS => ?_)
            refine lv_istore (lv' := [(6, .int r_10), (5, .int r_8), (4, .int 1), (0, .ref adK), (1, .ref adS), (2, .ref adB), (3, .int p0)]) hx hb dX2_readOn_79 hl (by decide) rfl (fun ls hl => ?_)
            refine lv_aload_n hx hb dX2_readOn_81 rfl (lv_at hl 3 rfl) ?_
            refine lv_dup hx hb dX2_readOn_82 rfl ?_
            refine va_get (D := D) (ci := 2) (v := .int (fK 3)) (C := RX2) (T := TX2) (N := 8) hx hb hts (fun _ h => w_in (inlX2 _ h)) hown hK hP 0 rfl rfl 3 (by decide) (htL _ wd_73) (fun _ h9 => h9) rfl dX2_readOn_83 ?_
            refine lv_iload hx hb dX2_readOn_86 (lv_at hl 0 rfl) ?_
            refine lv_iadd hx hb dX2_readOn_88 ?_
            refine lv_topi (fun x_11 ex_11 => ?_)
            refine va_put (D := D) (ci := 2) (v := .int x_11) (ty := .int) (C := RX2) (T := TX2) (N := 8) hx hb hts (fun _ h => w_in (inlX2 _ h)) tyX2 tyX2_ok nmX2 hown hK hP hD hS 0 rfl rfl 3 (by decide) (htL _ wd_73) (fun _ h9 => h9) rfl (by decide +kernel) rfl rfl (Nat.le_of_ble_eq_true rfl) dX2_readOn_89 (fun H locs hP hD hS => ?_)
            have hP : va_P D vwCl [(adK, .inr (2, [.int (fK 0), .int (fK 1), .int (fK 2), .int x_11, .int (fK 4), .int (fK 5), .int (fK 6), .int (fK 7)])), (adS, .inr (5, [.ref (rS 0), .ref (rS 1), .ref (rS 2), .ref (rS 3), .int nS])), ((rS 0), .inl (cI, 8, .inl (qS 0))), ((rS 1), .inl (cI, 8, .inl (qS 1))), ((rS 2), .inl (cI, 8, .inl (qS 2))), ((rS 3), .inl (cI, 8, .inl (qS 3))), (adB, .inr (0, [.int (gB 0), .int (gB 1), .int (gB 2), .int (gB 3), .int (gB 4)]))] _ := hP
            have hD : va_D A [(adK, .inr (2, [.int (fK 0), .int (fK 1), .int (fK 2), .int x_11, .int (fK 4), .int (fK 5), .int (fK 6), .int (fK 7)])), (adS, .inr (5, [.ref (rS 0), .ref (rS 1), .ref (rS 2), .ref (rS 3), .int nS])), ((rS 0), .inl (cI, 8, .inl (qS 0))), ((rS 1), .inl (cI, 8, .inl (qS 1))), ((rS 2), .inl (cI, 8, .inl (qS 2))), ((rS 3), .inl (cI, 8, .inl (qS 3))), (adB, .inr (0, [.int (gB 0), .int (gB 1), .int (gB 2), .int (gB 3), .int (gB 4)]))] := hD
            refine lv_aload_n hx hb dX2_readOn_92 rfl (lv_at hl 3 rfl) ?_
            refine lv_dup hx hb dX2_readOn_93 rfl ?_
            refine va_get (D := D) (ci := 2) (v := .int (fK 4)) (C := RX2) (T := TX2) (N := 8) hx hb hts (fun _ h => w_in (inlX2 _ h)) hown hK hP 0 rfl rfl 4 (by decide) (htL _ wd_74) (fun _ h9 => h9) rfl dX2_readOn_94 ?_
            refine lv_iload hx hb dX2_readOn_97 (lv_at hl 0 rfl) ?_
            refine lv_iadd hx hb dX2_readOn_99 ?_
            refine lv_topi (fun x_12 ex_12 => ?_)
            refine va_put (D := D) (ci := 2) (v := .int x_12) (ty := .int) (C := RX2) (T := TX2) (N := 8) hx hb hts (fun _ h => w_in (inlX2 _ h)) tyX2 tyX2_ok nmX2 hown hK hP hD hS 0 rfl rfl 4 (by decide) (htL _ wd_74) (fun _ h9 => h9) rfl (by decide +kernel) rfl rfl (Nat.le_of_ble_eq_true rfl) dX2_readOn_100 (fun H locs hP hD hS => ?_)
            have hP : va_P D vwCl [(adK, .inr (2, [.int (fK 0), .int (fK 1), .int (fK 2), .int x_11, .int x_12, .int (fK 5), .int (fK 6), .int (fK 7)])), (adS, .inr (5, [.ref (rS 0), .ref (rS 1), .ref (rS 2), .ref (rS 3), .int nS])), ((rS 0), .inl (cI, 8, .inl (qS 0))), ((rS 1), .inl (cI, 8, .inl (qS 1))), ((rS 2), .inl (cI, 8, .inl (qS 2))), ((rS 3), .inl (cI, 8, .inl (qS 3))), (adB, .inr (0, [.int (gB 0), .int (gB 1), .int (gB 2), .int (gB 3), .int (gB 4)]))] _ := hP
            have hD : va_D A [(adK, .inr (2, [.int (fK 0), .int (fK 1), .int (fK 2), .int x_11, .int x_12, .int (fK 5), .int (fK 6), .int (fK 7)])), (adS, .inr (5, [.ref (rS 0), .ref (rS 1), .ref (rS 2), .ref (rS 3), .int nS])), ((rS 0), .inl (cI, 8, .inl (qS 0))), ((rS 1), .inl (cI, 8, .inl (qS 1))), ((rS 2), .inl (cI, 8, .inl (qS 2))), ((rS 3), .inl (cI, 8, .inl (qS 3))), (adB, .inr (0, [.int (gB 0), .int (gB 1), .int (gB 2), .int (gB 3), .int (gB 4)]))] := hD
            refine lv_aload_n hx hb dX2_readOn_103 rfl (lv_at hl 3 rfl) ?_
            refine va_get (D := D) (ci := 2) (v := .int x_12) (C := RX2) (T := TX2) (N := 8) hx hb hts (fun _ h => w_in (inlX2 _ h)) hown hK hP 0 rfl rfl 4 (by decide) (htL _ wd_74) (fun _ h9 => h9) rfl dX2_readOn_104 ?_
            refine lv_aload_n hx hb dX2_readOn_107 rfl (lv_at hl 3 rfl) ?_
            refine va_get (D := D) (ci := 2) (v := .int (fK 2)) (C := RX2) (T := TX2) (N := 8) hx hb hts (fun _ h => w_in (inlX2 _ h)) hown hK hP 0 rfl rfl 2 (by decide) (htL _ wd_72) (fun _ h9 => h9) rfl dX2_readOn_108 ?_
            refine lv_icmp_le (tgt := 129) hx hb dX2_readOn_111 (by decide) (fun c_13 => ?_) (fun c_13 => ?_)
            · refine lv_aload_n hx hb dX2_readOn_129 rfl (lv_at hl 3 rfl) ?_
              refine va_get (D := D) (ci := 2) (v := .int x_11) (C := RX2) (T := TX2) (N := 8) hx hb hts (fun _ h => w_in (inlX2 _ h)) hown hK hP 0 rfl rfl 3 (by decide) (htL _ wd_73) (fun _ h9 => h9) rfl dX2_readOn_130 ?_
              refine lv_aload_n hx hb dX2_readOn_133 rfl (lv_at hl 5 rfl) ?_
              refine lv_aload_n hx hb dX2_readOn_134 rfl (lv_at hl 3 rfl) ?_
              refine va_get (D := D) (ci := 2) (v := .int (fK 5)) (C := RX2) (T := TX2) (N := 8) hx hb hts (fun _ h => w_in (inlX2 _ h)) hown hK hP 0 rfl rfl 5 (by decide) (htL _ wd_75) (fun _ h9 => h9) rfl dX2_readOn_135 ?_
              refine x_ci [6] (va_runV (As := [.int (fK 5)]) (rest := [.int x_11]) ⟨hx, hb, hml, hown, hts⟩ (c_X0_turnsAt l D cI cL adB gB (fK 5) _) (cwV 1 hts (gv_ok (fun _ h => w_in h) wd_386 wd_499 wd_384 wd_385 wd_27) rfl rfl rfl (by decide +kernel) ⟨Nat.le_of_ble_eq_true rfl, Nat.le_of_ble_eq_true rfl⟩) (x_pv hN hK hP hD [6] rfl rfl (ci := 0) (q0 := 6) rfl rfl) rfl rfl hl.1 rfl (lv_room (Nat.le_of_ble_eq_true rfl)) dX2_readOn_138 ⟨Nat.zero_le _, Nat.zero_le _⟩) hP hD hS hA rfl (fun r_14 H locs er_14 hP hS => ?_)
              refine lv_icmp_le (tgt := 152) hx hb dX2_readOn_141 (by decide) (fun c_15 => ?_) (fun c_15 => ?_)
              · refine lv_aload_n hx hb dX2_readOn_152 rfl (lv_at hl 3 rfl) ?_
                refine lv_dup hx hb dX2_readOn_153 rfl ?_
                refine va_get (D := D) (ci := 2) (v := .int (fK 6)) (C := RX2) (T := TX2) (N := 8) hx hb hts (fun _ h => w_in (inlX2 _ h)) hown hK hP 0 rfl rfl 6 (by decide) (htL _ wd_76) (fun _ h9 => h9) rfl dX2_readOn_154 ?_
                refine lv_iconst (v := 1) hx hb dX2_readOn_157 (by decide) ?_
                refine lv_iload hx hb dX2_readOn_158 (lv_at hl 1 rfl) ?_
                refine lv_ishl hx hb dX2_readOn_160 ?_
                refine lv_topi (fun x_16 ex_16 => ?_)
                refine lv_ior hx hb dX2_readOn_161 ?_
                refine lv_topi (fun x_17 ex_17 => ?_)
                refine va_put (D := D) (ci := 2) (v := .int x_17) (ty := .int) (C := RX2) (T := TX2) (N := 8) hx hb hts (fun _ h => w_in (inlX2 _ h)) tyX2 tyX2_ok nmX2 hown hK hP hD hS 0 rfl rfl 6 (by decide) (htL _ wd_76) (fun _ h9 => h9) rfl (by decide +kernel) rfl rfl (Nat.le_of_ble_eq_true rfl) dX2_readOn_162 (fun H locs hP hD hS => ?_)
                have hP : va_P D vwCl [(adK, .inr (2, [.int (fK 0), .int (fK 1), .int (fK 2), .int x_11, .int x_12, .int (fK 5), .int x_17, .int (fK 7)])), (adS, .inr (5, [.ref (rS 0), .ref (rS 1), .ref (rS 2), .ref (rS 3), .int nS])), ((rS 0), .inl (cI, 8, .inl (qS 0))), ((rS 1), .inl (cI, 8, .inl (qS 1))), ((rS 2), .inl (cI, 8, .inl (qS 2))), ((rS 3), .inl (cI, 8, .inl (qS 3))), (adB, .inr (0, [.int (gB 0), .int (gB 1), .int (gB 2), .int (gB 3), .int (gB 4)]))] _ := hP
                have hD : va_D A [(adK, .inr (2, [.int (fK 0), .int (fK 1), .int (fK 2), .int x_11, .int x_12, .int (fK 5), .int x_17, .int (fK 7)])), (adS, .inr (5, [.ref (rS 0), .ref (rS 1), .ref (rS 2), .ref (rS 3), .int nS])), ((rS 0), .inl (cI, 8, .inl (qS 0))), ((rS 1), .inl (cI, 8, .inl (qS 1))), ((rS 2), .inl (cI, 8, .inl (qS 2))), ((rS 3), .inl (cI, 8, .inl (qS 3))), (adB, .inr (0, [.int (gB 0), .int (gB 1), .int (gB 2), .int (gB 3), .int (gB 4)]))] := hD
                refine lv_iload hx hb dX2_readOn_165 (lv_at hl 1 rfl) ?_
                have hF1 : F_X2_readOn fK qS nS gB p0 = (r_8, (upd (upd (upd fK 3 x_11) 4 x_12) 6 x_17)) := (eX2_readOn_5 fK qS nS gB p0 r_3 x_4 x_5 r_8 r_10 x_11 x_12 r_14 x_16 x_17 er_3 ex_4 ex_5 er_8 er_10 ex_11 ex_12 er_14 ex_16 ex_17 c_1 c_2 c_6 c_7 c_9 c_13 c_15)
                exact xi_ret hx hb hr hlocks hP hS (congrArg (fun o : Int32 × (Nat → Int32) => ([(adK, .inr (2, [.int (o.2 0), .int (o.2 1), .int (o.2 2), .int (o.2 3), .int (o.2 4), .int (o.2 5), .int (o.2 6), .int (o.2 7)])), (adS, .inr (5, [.ref (rS 0), .ref (rS 1), .ref (rS 2), .ref (rS 3), .int nS])), ((rS 0), .inl (cI, 8, .inl (qS 0))), ((rS 1), .inl (cI, 8, .inl (qS 1))), ((rS 2), .inl (cI, 8, .inl (qS 2))), ((rS 3), .inl (cI, 8, .inl (qS 3))), (adB, .inr (0, [.int (gB 0), .int (gB 1), .int (gB 2), .int (gB 3), .int (gB 4)]))] : va_W)) hF1).symm (congrArg (fun o : Int32 × (Nat → Int32) => o.1) hF1).symm dX2_readOn_167
              · refine lv_aload_n hx hb dX2_readOn_144 rfl (lv_at hl 3 rfl) ?_
                refine lv_iconst (v := 1) hx hb dX2_readOn_145 (by decide) ?_
                refine va_put (D := D) (ci := 2) (v := .int 1) (ty := .boolean) (C := RX2) (T := TX2) (N := 8) hx hb hts (fun _ h => w_in (inlX2 _ h)) tyX2 tyX2_ok nmX2 hown hK hP hD hS 0 rfl rfl 7 (by decide) (htL _ wd_77) (fun _ h9 => h9) rfl (by decide +kernel) rfl rfl (Nat.le_of_ble_eq_true rfl) dX2_readOn_146 (fun H locs hP hD hS => ?_)
                have hP : va_P D vwCl [(adK, .inr (2, [.int (fK 0), .int (fK 1), .int (fK 2), .int x_11, .int x_12, .int (fK 5), .int (fK 6), .int 1])), (adS, .inr (5, [.ref (rS 0), .ref (rS 1), .ref (rS 2), .ref (rS 3), .int nS])), ((rS 0), .inl (cI, 8, .inl (qS 0))), ((rS 1), .inl (cI, 8, .inl (qS 1))), ((rS 2), .inl (cI, 8, .inl (qS 2))), ((rS 3), .inl (cI, 8, .inl (qS 3))), (adB, .inr (0, [.int (gB 0), .int (gB 1), .int (gB 2), .int (gB 3), .int (gB 4)]))] _ := hP
                have hD : va_D A [(adK, .inr (2, [.int (fK 0), .int (fK 1), .int (fK 2), .int x_11, .int x_12, .int (fK 5), .int (fK 6), .int 1])), (adS, .inr (5, [.ref (rS 0), .ref (rS 1), .ref (rS 2), .ref (rS 3), .int nS])), ((rS 0), .inl (cI, 8, .inl (qS 0))), ((rS 1), .inl (cI, 8, .inl (qS 1))), ((rS 2), .inl (cI, 8, .inl (qS 2))), ((rS 3), .inl (cI, 8, .inl (qS 3))), (adB, .inr (0, [.int (gB 0), .int (gB 1), .int (gB 2), .int (gB 3), .int (gB 4)]))] := hD
                refine lv_bipush (v := (-9)) hx hb dX2_readOn_149 (by decide) ?_
                have hF1 : F_X2_readOn fK qS nS gB p0 = ((-9), (upd (upd (upd fK 3 x_11) 4 x_12) 7 1)) := (eX2_readOn_6 fK qS nS gB p0 r_3 x_4 x_5 r_8 r_10 x_11 x_12 r_14 er_3 ex_4 ex_5 er_8 er_10 ex_11 ex_12 er_14 c_1 c_2 c_6 c_7 c_9 c_13 c_15)
                exact xi_ret hx hb hr hlocks hP hS (congrArg (fun o : Int32 × (Nat → Int32) => ([(adK, .inr (2, [.int (o.2 0), .int (o.2 1), .int (o.2 2), .int (o.2 3), .int (o.2 4), .int (o.2 5), .int (o.2 6), .int (o.2 7)])), (adS, .inr (5, [.ref (rS 0), .ref (rS 1), .ref (rS 2), .ref (rS 3), .int nS])), ((rS 0), .inl (cI, 8, .inl (qS 0))), ((rS 1), .inl (cI, 8, .inl (qS 1))), ((rS 2), .inl (cI, 8, .inl (qS 2))), ((rS 3), .inl (cI, 8, .inl (qS 3))), (adB, .inr (0, [.int (gB 0), .int (gB 1), .int (gB 2), .int (gB 3), .int (gB 4)]))] : va_W)) hF1).symm (congrArg (fun o : Int32 × (Nat → Int32) => o.1) hF1).symm dX2_readOn_151
            · refine lv_aload_n hx hb dX2_readOn_114 rfl (lv_at hl 3 rfl) ?_
              refine lv_dup hx hb dX2_readOn_115 rfl ?_
              refine va_get (D := D) (ci := 2) (v := .int (fK 5)) (C := RX2) (T := TX2) (N := 8) hx hb hts (fun _ h => w_in (inlX2 _ h)) hown hK hP 0 rfl rfl 5 (by decide) (htL _ wd_75) (fun _ h9 => h9) rfl dX2_readOn_116 ?_
              refine lv_iconst (v := 1) hx hb dX2_readOn_119 (by decide) ?_
              refine lv_iadd hx hb dX2_readOn_120 ?_
              refine lv_topi (fun x_18 ex_18 => ?_)
              refine va_put (D := D) (ci := 2) (v := .int x_18) (ty := .int) (C := RX2) (T := TX2) (N := 8) hx hb hts (fun _ h => w_in (inlX2 _ h)) tyX2 tyX2_ok nmX2 hown hK hP hD hS 0 rfl rfl 5 (by decide) (htL _ wd_75) (fun _ h9 => h9) rfl (by decide +kernel) rfl rfl (Nat.le_of_ble_eq_true rfl) dX2_readOn_121 (fun H locs hP hD hS => ?_)
              have hP : va_P D vwCl [(adK, .inr (2, [.int (fK 0), .int (fK 1), .int (fK 2), .int x_11, .int x_12, .int x_18, .int (fK 6), .int (fK 7)])), (adS, .inr (5, [.ref (rS 0), .ref (rS 1), .ref (rS 2), .ref (rS 3), .int nS])), ((rS 0), .inl (cI, 8, .inl (qS 0))), ((rS 1), .inl (cI, 8, .inl (qS 1))), ((rS 2), .inl (cI, 8, .inl (qS 2))), ((rS 3), .inl (cI, 8, .inl (qS 3))), (adB, .inr (0, [.int (gB 0), .int (gB 1), .int (gB 2), .int (gB 3), .int (gB 4)]))] _ := hP
              have hD : va_D A [(adK, .inr (2, [.int (fK 0), .int (fK 1), .int (fK 2), .int x_11, .int x_12, .int x_18, .int (fK 6), .int (fK 7)])), (adS, .inr (5, [.ref (rS 0), .ref (rS 1), .ref (rS 2), .ref (rS 3), .int nS])), ((rS 0), .inl (cI, 8, .inl (qS 0))), ((rS 1), .inl (cI, 8, .inl (qS 1))), ((rS 2), .inl (cI, 8, .inl (qS 2))), ((rS 3), .inl (cI, 8, .inl (qS 3))), (adB, .inr (0, [.int (gB 0), .int (gB 1), .int (gB 2), .int (gB 3), .int (gB 4)]))] := hD
              refine lv_aload_n hx hb dX2_readOn_124 rfl (lv_at hl 3 rfl) ?_
              refine lv_iconst (v := 0) hx hb dX2_readOn_125 (by decide) ?_
              refine va_put (D := D) (ci := 2) (v := .int 0) (ty := .int) (C := RX2) (T := TX2) (N := 8) hx hb hts (fun _ h => w_in (inlX2 _ h)) tyX2 tyX2_ok nmX2 hown hK hP hD hS 0 rfl rfl 4 (by decide) (htL _ wd_74) (fun _ h9 => h9) rfl (by decide +kernel) rfl rfl (Nat.le_of_ble_eq_true rfl) dX2_readOn_126 (fun H locs hP hD hS => ?_)
              have hP : va_P D vwCl [(adK, .inr (2, [.int (fK 0), .int (fK 1), .int (fK 2), .int x_11, .int 0, .int x_18, .int (fK 6), .int (fK 7)])), (adS, .inr (5, [.ref (rS 0), .ref (rS 1), .ref (rS 2), .ref (rS 3), .int nS])), ((rS 0), .inl (cI, 8, .inl (qS 0))), ((rS 1), .inl (cI, 8, .inl (qS 1))), ((rS 2), .inl (cI, 8, .inl (qS 2))), ((rS 3), .inl (cI, 8, .inl (qS 3))), (adB, .inr (0, [.int (gB 0), .int (gB 1), .int (gB 2), .int (gB 3), .int (gB 4)]))] _ := hP
              have hD : va_D A [(adK, .inr (2, [.int (fK 0), .int (fK 1), .int (fK 2), .int x_11, .int 0, .int x_18, .int (fK 6), .int (fK 7)])), (adS, .inr (5, [.ref (rS 0), .ref (rS 1), .ref (rS 2), .ref (rS 3), .int nS])), ((rS 0), .inl (cI, 8, .inl (qS 0))), ((rS 1), .inl (cI, 8, .inl (qS 1))), ((rS 2), .inl (cI, 8, .inl (qS 2))), ((rS 3), .inl (cI, 8, .inl (qS 3))), (adB, .inr (0, [.int (gB 0), .int (gB 1), .int (gB 2), .int (gB 3), .int (gB 4)]))] := hD
              refine lv_aload_n hx hb dX2_readOn_129 rfl (lv_at hl 3 rfl) ?_
              refine va_get (D := D) (ci := 2) (v := .int x_11) (C := RX2) (T := TX2) (N := 8) hx hb hts (fun _ h => w_in (inlX2 _ h)) hown hK hP 0 rfl rfl 3 (by decide) (htL _ wd_73) (fun _ h9 => h9) rfl dX2_readOn_130 ?_
              refine lv_aload_n hx hb dX2_readOn_133 rfl (lv_at hl 5 rfl) ?_
              refine lv_aload_n hx hb dX2_readOn_134 rfl (lv_at hl 3 rfl) ?_
              refine va_get (D := D) (ci := 2) (v := .int x_18) (C := RX2) (T := TX2) (N := 8) hx hb hts (fun _ h => w_in (inlX2 _ h)) hown hK hP 0 rfl rfl 5 (by decide) (htL _ wd_75) (fun _ h9 => h9) rfl dX2_readOn_135 ?_
              refine x_ci [6] (va_runV (As := [.int x_18]) (rest := [.int x_11]) ⟨hx, hb, hml, hown, hts⟩ (c_X0_turnsAt l D cI cL adB gB x_18 _) (cwV 1 hts (gv_ok (fun _ h => w_in h) wd_386 wd_499 wd_384 wd_385 wd_27) rfl rfl rfl (by decide +kernel) ⟨Nat.le_of_ble_eq_true rfl, Nat.le_of_ble_eq_true rfl⟩) (x_pv hN hK hP hD [6] rfl rfl (ci := 0) (q0 := 6) rfl rfl) rfl rfl hl.1 rfl (lv_room (Nat.le_of_ble_eq_true rfl)) dX2_readOn_138 ⟨Nat.zero_le _, Nat.zero_le _⟩) hP hD hS hA rfl (fun r_19 H locs er_19 hP hS => ?_)
              refine lv_icmp_le (tgt := 152) hx hb dX2_readOn_141 (by decide) (fun c_20 => ?_) (fun c_20 => ?_)
              · refine lv_aload_n hx hb dX2_readOn_152 rfl (lv_at hl 3 rfl) ?_
                refine lv_dup hx hb dX2_readOn_153 rfl ?_
                refine va_get (D := D) (ci := 2) (v := .int (fK 6)) (C := RX2) (T := TX2) (N := 8) hx hb hts (fun _ h => w_in (inlX2 _ h)) hown hK hP 0 rfl rfl 6 (by decide) (htL _ wd_76) (fun _ h9 => h9) rfl dX2_readOn_154 ?_
                refine lv_iconst (v := 1) hx hb dX2_readOn_157 (by decide) ?_
                refine lv_iload hx hb dX2_readOn_158 (lv_at hl 1 rfl) ?_
                refine lv_ishl hx hb dX2_readOn_160 ?_
                refine lv_topi (fun x_21 ex_21 => ?_)
                refine lv_ior hx hb dX2_readOn_161 ?_
                refine lv_topi (fun x_22 ex_22 => ?_)
                refine va_put (D := D) (ci := 2) (v := .int x_22) (ty := .int) (C := RX2) (T := TX2) (N := 8) hx hb hts (fun _ h => w_in (inlX2 _ h)) tyX2 tyX2_ok nmX2 hown hK hP hD hS 0 rfl rfl 6 (by decide) (htL _ wd_76) (fun _ h9 => h9) rfl (by decide +kernel) rfl rfl (Nat.le_of_ble_eq_true rfl) dX2_readOn_162 (fun H locs hP hD hS => ?_)
                have hP : va_P D vwCl [(adK, .inr (2, [.int (fK 0), .int (fK 1), .int (fK 2), .int x_11, .int 0, .int x_18, .int x_22, .int (fK 7)])), (adS, .inr (5, [.ref (rS 0), .ref (rS 1), .ref (rS 2), .ref (rS 3), .int nS])), ((rS 0), .inl (cI, 8, .inl (qS 0))), ((rS 1), .inl (cI, 8, .inl (qS 1))), ((rS 2), .inl (cI, 8, .inl (qS 2))), ((rS 3), .inl (cI, 8, .inl (qS 3))), (adB, .inr (0, [.int (gB 0), .int (gB 1), .int (gB 2), .int (gB 3), .int (gB 4)]))] _ := hP
                have hD : va_D A [(adK, .inr (2, [.int (fK 0), .int (fK 1), .int (fK 2), .int x_11, .int 0, .int x_18, .int x_22, .int (fK 7)])), (adS, .inr (5, [.ref (rS 0), .ref (rS 1), .ref (rS 2), .ref (rS 3), .int nS])), ((rS 0), .inl (cI, 8, .inl (qS 0))), ((rS 1), .inl (cI, 8, .inl (qS 1))), ((rS 2), .inl (cI, 8, .inl (qS 2))), ((rS 3), .inl (cI, 8, .inl (qS 3))), (adB, .inr (0, [.int (gB 0), .int (gB 1), .int (gB 2), .int (gB 3), .int (gB 4)]))] := hD
                refine lv_iload hx hb dX2_readOn_165 (lv_at hl 1 rfl) ?_
                have hF1 : F_X2_readOn fK qS nS gB p0 = (r_8, (upd (upd (upd (upd fK 3 x_11) 4 0) 5 x_18) 6 x_22)) := (eX2_readOn_7 fK qS nS gB p0 r_3 x_4 x_5 r_8 r_10 x_11 x_12 x_18 r_19 x_21 x_22 er_3 ex_4 ex_5 er_8 er_10 ex_11 ex_12 ex_18 er_19 ex_21 ex_22 c_1 c_2 c_6 c_7 c_9 c_13 c_20)
                exact xi_ret hx hb hr hlocks hP hS (congrArg (fun o : Int32 × (Nat → Int32) => ([(adK, .inr (2, [.int (o.2 0), .int (o.2 1), .int (o.2 2), .int (o.2 3), .int (o.2 4), .int (o.2 5), .int (o.2 6), .int (o.2 7)])), (adS, .inr (5, [.ref (rS 0), .ref (rS 1), .ref (rS 2), .ref (rS 3), .int nS])), ((rS 0), .inl (cI, 8, .inl (qS 0))), ((rS 1), .inl (cI, 8, .inl (qS 1))), ((rS 2), .inl (cI, 8, .inl (qS 2))), ((rS 3), .inl (cI, 8, .inl (qS 3))), (adB, .inr (0, [.int (gB 0), .int (gB 1), .int (gB 2), .int (gB 3), .int (gB 4)]))] : va_W)) hF1).symm (congrArg (fun o : Int32 × (Nat → Int32) => o.1) hF1).symm dX2_readOn_167
              · refine lv_aload_n hx hb dX2_readOn_144 rfl (lv_at hl 3 rfl) ?_
                refine lv_iconst (v := 1) hx hb dX2_readOn_145 (by decide) ?_
                refine va_put (D := D) (ci := 2) (v := .int 1) (ty := .boolean) (C := RX2) (T := TX2) (N := 8) hx hb hts (fun _ h => w_in (inlX2 _ h)) tyX2 tyX2_ok nmX2 hown hK hP hD hS 0 rfl rfl 7 (by decide) (htL _ wd_77) (fun _ h9 => h9) rfl (by decide +kernel) rfl rfl (Nat.le_of_ble_eq_true rfl) dX2_readOn_146 (fun H locs hP hD hS => ?_)
                have hP : va_P D vwCl [(adK, .inr (2, [.int (fK 0), .int (fK 1), .int (fK 2), .int x_11, .int 0, .int x_18, .int (fK 6), .int 1])), (adS, .inr (5, [.ref (rS 0), .ref (rS 1), .ref (rS 2), .ref (rS 3), .int nS])), ((rS 0), .inl (cI, 8, .inl (qS 0))), ((rS 1), .inl (cI, 8, .inl (qS 1))), ((rS 2), .inl (cI, 8, .inl (qS 2))), ((rS 3), .inl (cI, 8, .inl (qS 3))), (adB, .inr (0, [.int (gB 0), .int (gB 1), .int (gB 2), .int (gB 3), .int (gB 4)]))] _ := hP
                have hD : va_D A [(adK, .inr (2, [.int (fK 0), .int (fK 1), .int (fK 2), .int x_11, .int 0, .int x_18, .int (fK 6), .int 1])), (adS, .inr (5, [.ref (rS 0), .ref (rS 1), .ref (rS 2), .ref (rS 3), .int nS])), ((rS 0), .inl (cI, 8, .inl (qS 0))), ((rS 1), .inl (cI, 8, .inl (qS 1))), ((rS 2), .inl (cI, 8, .inl (qS 2))), ((rS 3), .inl (cI, 8, .inl (qS 3))), (adB, .inr (0, [.int (gB 0), .int (gB 1), .int (gB 2), .int (gB 3), .int (gB 4)]))] := hD
                refine lv_bipush (v := (-9)) hx hb dX2_readOn_149 (by decide) ?_
                have hF1 : F_X2_readOn fK qS nS gB p0 = ((-9), (upd (upd (upd (upd fK 3 x_11) 4 0) 5 x_18) 7 1)) := (eX2_readOn_8 fK qS nS gB p0 r_3 x_4 x_5 r_8 r_10 x_11 x_12 x_18 r_19 er_3 ex_4 ex_5 er_8 er_10 ex_11 ex_12 ex_18 er_19 c_1 c_2 c_6 c_7 c_9 c_13 c_20)
                exact xi_ret hx hb hr hlocks hP hS (congrArg (fun o : Int32 × (Nat → Int32) => ([(adK, .inr (2, [.int (o.2 0), .int (o.2 1), .int (o.2 2), .int (o.2 3), .int (o.2 4), .int (o.2 5), .int (o.2 6), .int (o.2 7)])), (adS, .inr (5, [.ref (rS 0), .ref (rS 1), .ref (rS 2), .ref (rS 3), .int nS])), ((rS 0), .inl (cI, 8, .inl (qS 0))), ((rS 1), .inl (cI, 8, .inl (qS 1))), ((rS 2), .inl (cI, 8, .inl (qS 2))), ((rS 3), .inl (cI, 8, .inl (qS 3))), (adB, .inr (0, [.int (gB 0), .int (gB 1), .int (gB 2), .int (gB 3), .int (gB 4)]))] : va_W)) hF1).symm (congrArg (fun o : Int32 × (Nat → Int32) => o.1) hF1).symm dX2_readOn_151
          · refine lv_bipush (v := (-3)) hx hb dX2_readOn_66 (by decide) ?_
            have hF1 : F_X2_readOn fK qS nS gB p0 = ((-3), fK) := (eX2_readOn_9 fK qS nS gB p0 r_3 x_4 x_5 r_8 er_3 ex_4 ex_5 er_8 c_1 c_2 c_6 c_7 c_9)
            exact xi_ret hx hb hr hlocks hP hS (congrArg (fun o : Int32 × (Nat → Int32) => ([(adK, .inr (2, [.int (o.2 0), .int (o.2 1), .int (o.2 2), .int (o.2 3), .int (o.2 4), .int (o.2 5), .int (o.2 6), .int (o.2 7)])), (adS, .inr (5, [.ref (rS 0), .ref (rS 1), .ref (rS 2), .ref (rS 3), .int nS])), ((rS 0), .inl (cI, 8, .inl (qS 0))), ((rS 1), .inl (cI, 8, .inl (qS 1))), ((rS 2), .inl (cI, 8, .inl (qS 2))), ((rS 3), .inl (cI, 8, .inl (qS 3))), (adB, .inr (0, [.int (gB 0), .int (gB 1), .int (gB 2), .int (gB 3), .int (gB 4)]))] : va_W)) hF1).symm (congrArg (fun o : Int32 × (Nat → Int32) => o.1) hF1).symm dX2_readOn_68

noncomputable def F_X2_lookAway (fK : Nat → Int32) (gB : Nat → Int32) (p0 : Int32) : Nat → Int32 :=
  let x_1 : Int32 := ((fK 3) + p0)
  let r_2 : Int32 := (F_X0_turnsAt gB (fK 5))
  if x_1 ≤ r_2 then
  ((upd (upd fK 3 x_1) 4 0))
  else
  ((upd (upd (upd fK 3 x_1) 4 0) 7 1))
set_option maxRecDepth 100000 in
theorem eX2_lookAway_1 (fK : Nat → Int32) (gB : Nat → Int32) (p0 : Int32) (x_1 : Int32) (r_2 : Int32) (ex_1 : x_1 = ((fK 3) + p0)) (er_2 : r_2 = (F_X0_turnsAt gB (fK 5))) (c_3 : x_1 ≤ r_2) : F_X2_lookAway fK gB p0 = (upd (upd fK 3 x_1) 4 0) := by subst ex_1 er_2; exact (if_pos c_3).trans (rfl)
set_option maxRecDepth 100000 in
theorem eX2_lookAway_2 (fK : Nat → Int32) (gB : Nat → Int32) (p0 : Int32) (x_1 : Int32) (r_2 : Int32) (ex_1 : x_1 = ((fK 3) + p0)) (er_2 : r_2 = (F_X0_turnsAt gB (fK 5))) (c_3 : ¬ (x_1 ≤ r_2)) : F_X2_lookAway fK gB p0 = (upd (upd (upd fK 3 x_1) 4 0) 7 1) := by subst ex_1 er_2; exact (if_neg c_3).trans (rfl)
set_option maxHeartbeats 4000000 in
set_option maxRecDepth 100000 in
theorem c_X2_lookAway (l : Launch) (D : va_G) (cI cL : ClassId)   (adK : Nat) (adB : Nat) (fK : Nat → Int32) (gB : Nat → Int32) (p0 : Int32)  : Xv l yX2_lookAway (wm yX2_lookAway cX2_lookAway 3 none) (xR (2) (42)) D (tyA cI cL) [.ref adK, .ref adB, .int p0] [(adK, .inr (2, [.int (fK 0), .int (fK 1), .int (fK 2), .int (fK 3), .int (fK 4), .int (fK 5), .int (fK 6), .int (fK 7)])), (adB, .inr (0, [.int (gB 0), .int (gB 1), .int (gB 2), .int (gB 3), .int (gB 4)]))] [(adK, .inr (2, [.int ((F_X2_lookAway fK gB p0) 0), .int ((F_X2_lookAway fK gB p0) 1), .int ((F_X2_lookAway fK gB p0) 2), .int ((F_X2_lookAway fK gB p0) 3), .int ((F_X2_lookAway fK gB p0) 4), .int ((F_X2_lookAway fK gB p0) 5), .int ((F_X2_lookAway fK gB p0) 6), .int ((F_X2_lookAway fK gB p0) 7)])), (adB, .inr (0, [.int (gB 0), .int (gB 1), .int (gB 2), .int (gB 3), .int (gB 4)]))] := by
  intro sz
  refine x_in (cc := cX2_lookAway) (maxL := 3) (ret := none) (by decide) rfl (Nat.le_of_ble_eq_true rfl) (fun p e s m below meth c A ls hfix hr hlocks hN hK hP hAe hD hA hS hl => ?_)
  obtain ⟨hx, hb, hml, hown, hts⟩ := hfix
  rw [← hAe]
  clear hAe
  have hown : s.vm.findClass RX2 = some m.cls := hown
  have htL : ∀ w ∈ wsL_law, w.before ([.ref adK, .ref adB, .int p0] : List Value).toArray s = true := fun w h => hts w (List.mem_cons_of_mem _ h)
  have hl : lv_has ls 3 [(0, .ref adK), (1, .ref adB), (2, .int p0)] := hl
  refine lv_aload_n hx hb dX2_lookAway_0 rfl (lv_at hl 0 rfl) ?_
  refine lv_iconst (v := 0) hx hb dX2_lookAway_1 (by decide) ?_
  refine va_put (D := D) (ci := 2) (v := .int 0) (ty := .int) (C := RX2) (T := TX2) (N := 8) hx hb hts (fun _ h => w_in (inlX2 _ h)) tyX2 tyX2_ok nmX2 hown hK hP hD hS 0 rfl rfl 4 (by decide) (htL _ wd_74) (fun _ h9 => h9) rfl (by decide +kernel) rfl rfl (Nat.le_of_ble_eq_true rfl) dX2_lookAway_2 (fun H locs hP hD hS => ?_)
  have hP : va_P D vwCl [(adK, .inr (2, [.int (fK 0), .int (fK 1), .int (fK 2), .int (fK 3), .int 0, .int (fK 5), .int (fK 6), .int (fK 7)])), (adB, .inr (0, [.int (gB 0), .int (gB 1), .int (gB 2), .int (gB 3), .int (gB 4)]))] _ := hP
  have hD : va_D A [(adK, .inr (2, [.int (fK 0), .int (fK 1), .int (fK 2), .int (fK 3), .int 0, .int (fK 5), .int (fK 6), .int (fK 7)])), (adB, .inr (0, [.int (gB 0), .int (gB 1), .int (gB 2), .int (gB 3), .int (gB 4)]))] := hD
  refine lv_aload_n hx hb dX2_lookAway_5 rfl (lv_at hl 0 rfl) ?_
  refine lv_dup hx hb dX2_lookAway_6 rfl ?_
  refine va_get (D := D) (ci := 2) (v := .int (fK 3)) (C := RX2) (T := TX2) (N := 8) hx hb hts (fun _ h => w_in (inlX2 _ h)) hown hK hP 0 rfl rfl 3 (by decide) (htL _ wd_73) (fun _ h9 => h9) rfl dX2_lookAway_7 ?_
  refine lv_iload_n hx hb dX2_lookAway_10 rfl (lv_at hl 2 rfl) ?_
  refine lv_iadd hx hb dX2_lookAway_11 ?_
  refine lv_topi (fun x_1 ex_1 => ?_)
  refine va_put (D := D) (ci := 2) (v := .int x_1) (ty := .int) (C := RX2) (T := TX2) (N := 8) hx hb hts (fun _ h => w_in (inlX2 _ h)) tyX2 tyX2_ok nmX2 hown hK hP hD hS 0 rfl rfl 3 (by decide) (htL _ wd_73) (fun _ h9 => h9) rfl (by decide +kernel) rfl rfl (Nat.le_of_ble_eq_true rfl) dX2_lookAway_12 (fun H locs hP hD hS => ?_)
  have hP : va_P D vwCl [(adK, .inr (2, [.int (fK 0), .int (fK 1), .int (fK 2), .int x_1, .int 0, .int (fK 5), .int (fK 6), .int (fK 7)])), (adB, .inr (0, [.int (gB 0), .int (gB 1), .int (gB 2), .int (gB 3), .int (gB 4)]))] _ := hP
  have hD : va_D A [(adK, .inr (2, [.int (fK 0), .int (fK 1), .int (fK 2), .int x_1, .int 0, .int (fK 5), .int (fK 6), .int (fK 7)])), (adB, .inr (0, [.int (gB 0), .int (gB 1), .int (gB 2), .int (gB 3), .int (gB 4)]))] := hD
  refine lv_aload_n hx hb dX2_lookAway_15 rfl (lv_at hl 0 rfl) ?_
  refine va_get (D := D) (ci := 2) (v := .int x_1) (C := RX2) (T := TX2) (N := 8) hx hb hts (fun _ h => w_in (inlX2 _ h)) hown hK hP 0 rfl rfl 3 (by decide) (htL _ wd_73) (fun _ h9 => h9) rfl dX2_lookAway_16 ?_
  refine lv_aload_n hx hb dX2_lookAway_19 rfl (lv_at hl 1 rfl) ?_
  refine lv_aload_n hx hb dX2_lookAway_20 rfl (lv_at hl 0 rfl) ?_
  refine va_get (D := D) (ci := 2) (v := .int (fK 5)) (C := RX2) (T := TX2) (N := 8) hx hb hts (fun _ h => w_in (inlX2 _ h)) hown hK hP 0 rfl rfl 5 (by decide) (htL _ wd_75) (fun _ h9 => h9) rfl dX2_lookAway_21 ?_
  refine x_ci [1] (va_runV (As := [.int (fK 5)]) (rest := [.int x_1]) ⟨hx, hb, hml, hown, hts⟩ (c_X0_turnsAt l D cI cL adB gB (fK 5) _) (cwV 1 hts (gv_ok (fun _ h => w_in h) wd_386 wd_499 wd_384 wd_385 wd_27) rfl rfl rfl (by decide +kernel) ⟨Nat.le_of_ble_eq_true rfl, Nat.le_of_ble_eq_true rfl⟩) (x_pv hN hK hP hD [1] rfl rfl (ci := 0) (q0 := 1) rfl rfl) rfl rfl hl.1 rfl (lv_room (Nat.le_of_ble_eq_true rfl)) dX2_lookAway_24 ⟨Nat.zero_le _, Nat.zero_le _⟩) hP hD hS hA rfl (fun r_2 H locs er_2 hP hS => ?_)
  refine lv_icmp_le (tgt := 35) hx hb dX2_lookAway_27 (by decide) (fun c_3 => ?_) (fun c_3 => ?_)
  · have hF1 : F_X2_lookAway fK gB p0 = (upd (upd fK 3 x_1) 4 0) := (eX2_lookAway_1 fK gB p0 x_1 r_2 ex_1 er_2 c_3)
    exact xv_ret hx hb hr hlocks hP hS (congrArg (fun o : Nat → Int32 => ([(adK, .inr (2, [.int (o 0), .int (o 1), .int (o 2), .int (o 3), .int (o 4), .int (o 5), .int (o 6), .int (o 7)])), (adB, .inr (0, [.int (gB 0), .int (gB 1), .int (gB 2), .int (gB 3), .int (gB 4)]))] : va_W)) hF1).symm dX2_lookAway_35
  · refine lv_aload_n hx hb dX2_lookAway_30 rfl (lv_at hl 0 rfl) ?_
    refine lv_iconst (v := 1) hx hb dX2_lookAway_31 (by decide) ?_
    refine va_put (D := D) (ci := 2) (v := .int 1) (ty := .boolean) (C := RX2) (T := TX2) (N := 8) hx hb hts (fun _ h => w_in (inlX2 _ h)) tyX2 tyX2_ok nmX2 hown hK hP hD hS 0 rfl rfl 7 (by decide) (htL _ wd_77) (fun _ h9 => h9) rfl (by decide +kernel) rfl rfl (Nat.le_of_ble_eq_true rfl) dX2_lookAway_32 (fun H locs hP hD hS => ?_)
    have hP : va_P D vwCl [(adK, .inr (2, [.int (fK 0), .int (fK 1), .int (fK 2), .int x_1, .int 0, .int (fK 5), .int (fK 6), .int 1])), (adB, .inr (0, [.int (gB 0), .int (gB 1), .int (gB 2), .int (gB 3), .int (gB 4)]))] _ := hP
    have hD : va_D A [(adK, .inr (2, [.int (fK 0), .int (fK 1), .int (fK 2), .int x_1, .int 0, .int (fK 5), .int (fK 6), .int 1])), (adB, .inr (0, [.int (gB 0), .int (gB 1), .int (gB 2), .int (gB 3), .int (gB 4)]))] := hD
    have hF1 : F_X2_lookAway fK gB p0 = (upd (upd (upd fK 3 x_1) 4 0) 7 1) := (eX2_lookAway_2 fK gB p0 x_1 r_2 ex_1 er_2 c_3)
    exact xv_ret hx hb hr hlocks hP hS (congrArg (fun o : Nat → Int32 => ([(adK, .inr (2, [.int (o 0), .int (o 1), .int (o 2), .int (o 3), .int (o 4), .int (o 5), .int (o 6), .int (o 7)])), (adB, .inr (0, [.int (gB 0), .int (gB 1), .int (gB 2), .int (gB 3), .int (gB 4)]))] : va_W)) hF1).symm dX2_lookAway_35
