noncomputable def F_X1_isFull (fN : Nat → Int32) (nN : Int32) : Int32 :=
  if nN < 96 then
  (0)
  else
  (1)
theorem nz_X1_isFull (fN : Nat → Int32) (nN : Int32) : narrow .boolean (.int (F_X1_isFull fN nN)) = .int (F_X1_isFull fN nN) := by
  unfold F_X1_isFull
  try dsimp only
  (repeat' split) <;> rfl
set_option maxRecDepth 100000 in
theorem eX1_isFull_1 (fN : Nat → Int32) (nN : Int32) (c_1 : nN < 96) : F_X1_isFull fN nN = 0 := by exact (if_pos c_1).trans (rfl)
set_option maxRecDepth 100000 in
theorem eX1_isFull_2 (fN : Nat → Int32) (nN : Int32) (c_1 : ¬ (nN < 96)) : F_X1_isFull fN nN = 1 := by exact (if_neg c_1).trans (rfl)
set_option maxHeartbeats 4000000 in
set_option maxRecDepth 100000 in
theorem c_X1_isFull (l : Launch) (D : va_G) (cI cL : ClassId)   (adN : Nat) (adNa : Nat) (fN : Nat → Int32) (nN : Int32)  : Xi l yX1_isFull (wm yX1_isFull cX1_isFull 1 (some .boolean)) (xR (0) (0)) D (tyA cI cL) [.ref adN] [(adN, .inr (1, [.ref adNa, .int nN])), (adNa, .inl (cI, 96, .inl fN))] [(adN, .inr (1, [.ref adNa, .int nN])), (adNa, .inl (cI, 96, .inl fN))] (F_X1_isFull fN nN) := by
  intro sz
  refine x_in (cc := cX1_isFull) (maxL := 1) (ret := (some .boolean)) (by decide) rfl (Nat.le_of_ble_eq_true rfl) (fun p e s m below meth c A ls hfix hr hlocks hN hK hP hAe hD hA hS hl => ?_)
  obtain ⟨hx, hb, hml, hown, hts⟩ := hfix
  rw [← hAe]
  clear hAe
  have hown : s.vm.findClass RX1 = some m.cls := hown
  have htL : ∀ w ∈ wsL_law, w.before ([.ref adN] : List Value).toArray s = true := fun w h => hts w (List.mem_cons_of_mem _ h)
  have hl : lv_has ls 1 [(0, .ref adN)] := hl
  refine lv_aload_n hx hb dX1_isFull_0 rfl (lv_at hl 0 rfl) ?_
  refine va_get (D := D) (ci := 1) (v := .int nN) (C := RX1) (T := TX1) (N := 2) hx hb hts (fun _ h => w_in (inlX1 _ h)) hown hK hP 0 rfl rfl 1 (by decide) (htL _ wd_82) (fun _ h9 => h9) rfl dX1_isFull_1 ?_
  refine lv_bipush (v := 96) hx hb dX1_isFull_4 (by decide) ?_
  refine lv_icmp_lt (tgt := 13) hx hb dX1_isFull_6 (by decide) (fun c_1 => ?_) (fun c_1 => ?_)
  · refine lv_iconst (v := 0) hx hb dX1_isFull_13 (by decide) ?_
    have hF1 : F_X1_isFull fN nN = 0 := (eX1_isFull_1 fN nN c_1)
    exact xz_ret hx hb hr hlocks hP hS rfl (congrArg (fun o : Int32 => o) hF1).symm dX1_isFull_14 rfl
  · refine lv_iconst (v := 1) hx hb dX1_isFull_9 (by decide) ?_
    refine lv_goto (tgt := 14) hx hb dX1_isFull_10 (by decide) ?_
    have hF1 : F_X1_isFull fN nN = 1 := (eX1_isFull_2 fN nN c_1)
    exact xz_ret hx hb hr hlocks hP hS rfl (congrArg (fun o : Int32 => o) hF1).symm dX1_isFull_14 rfl

noncomputable def F_X1_add (fN : Nat → Int32) (nN : Int32) (p0 : Int32) : (Nat → Int32) × Int32 :=
  let r_1 : Int32 := (F_X1_isFull fN nN)
  if r_1 = 0 then
  (let o_3 : Nat → Int32 := (F_X6_put fN 96 nN p0)
  let x_4 : Int32 := (nN + 1)
  (o_3, x_4))
  else
  ((fN, nN))
set_option maxRecDepth 100000 in
theorem eX1_add_1 (fN : Nat → Int32) (nN : Int32) (p0 : Int32) (r_1 : Int32) (er_1 : r_1 = (F_X1_isFull fN nN)) (c_2 : ¬ (r_1 = 0)) : F_X1_add fN nN p0 = (fN, nN) := by subst er_1; exact (if_neg c_2).trans (rfl)
set_option maxRecDepth 100000 in
theorem eX1_add_2 (fN : Nat → Int32) (nN : Int32) (p0 : Int32) (r_1 : Int32) (o_3 : Nat → Int32) (x_4 : Int32) (er_1 : r_1 = (F_X1_isFull fN nN)) (eo_3 : o_3 = (F_X6_put fN 96 nN p0)) (ex_4 : x_4 = (nN + 1)) (c_2 : r_1 = 0) : F_X1_add fN nN p0 = (o_3, x_4) := by subst er_1 eo_3 ex_4; exact (if_pos c_2).trans (rfl)
set_option maxHeartbeats 4000000 in
set_option maxRecDepth 100000 in
theorem c_X1_add (l : Launch) (D : va_G) (cI cL : ClassId)   (adN : Nat) (adNa : Nat) (fN : Nat → Int32) (nN : Int32) (p0 : Int32)  : Xv l yX1_add (wm yX1_add cX1_add 2 none) (xR (1) (22)) D (tyA cI cL) [.ref adN, .int p0] [(adN, .inr (1, [.ref adNa, .int nN])), (adNa, .inl (cI, 96, .inl fN))] [(adN, .inr (1, [.ref adNa, .int (F_X1_add fN nN p0).2])), (adNa, .inl (cI, 96, .inl (F_X1_add fN nN p0).1))] := by
  intro sz
  refine x_in (cc := cX1_add) (maxL := 2) (ret := none) (by decide) rfl (Nat.le_of_ble_eq_true rfl) (fun p e s m below meth c A ls hfix hr hlocks hN hK hP hAe hD hA hS hl => ?_)
  obtain ⟨hx, hb, hml, hown, hts⟩ := hfix
  rw [← hAe]
  clear hAe
  have hown : s.vm.findClass RX1 = some m.cls := hown
  have htL : ∀ w ∈ wsL_law, w.before ([.ref adN, .int p0] : List Value).toArray s = true := fun w h => hts w (List.mem_cons_of_mem _ h)
  have hl : lv_has ls 2 [(0, .ref adN), (1, .int p0)] := hl
  refine lv_aload_n hx hb dX1_add_0 rfl (lv_at hl 0 rfl) ?_
  refine x_ci [0, 1] (va_runV (As := []) (rest := []) ⟨hx, hb, hml, hown, hts⟩ (c_X1_isFull l D cI cL adN adNa fN nN _) (cwV 0 hts (gv_ok (fun _ h => w_in h) wd_146 wd_151 wd_144 wd_145 wd_19) rfl rfl rfl (by decide +kernel) ⟨Nat.le_of_ble_eq_true rfl, Nat.le_of_ble_eq_true rfl⟩) (x_pv hN hK hP hD [0, 1] rfl rfl (ci := 1) (q0 := 0) rfl rfl) rfl rfl hl.1 rfl (lv_room (Nat.le_of_ble_eq_true rfl)) dX1_add_1 ⟨Nat.zero_le _, Nat.zero_le _⟩) hP hD hS hA rfl (fun r_1 H locs er_1 hP hS => ?_)
  refine lv_if_ne (tgt := 29) hx hb dX1_add_4 (by decide) (fun c_2 => ?_) (fun c_2 => ?_)
  · have hF1 : F_X1_add fN nN p0 = (fN, nN) := (eX1_add_1 fN nN p0 r_1 er_1 c_2)
    exact xv_ret hx hb hr hlocks hP hS (congrArg (fun o : (Nat → Int32) × Int32 => ([(adN, .inr (1, [.ref adNa, .int o.2])), (adNa, .inl (cI, 96, .inl o.1))] : va_W)) hF1).symm dX1_add_29
  · refine lv_aload_n hx hb dX1_add_7 rfl (lv_at hl 0 rfl) ?_
    refine va_get (D := D) (ci := 1) (v := .ref adNa) (C := RX1) (T := TX1) (N := 2) hx hb hts (fun _ h => w_in (inlX1 _ h)) hown hK hP 0 rfl rfl 0 (by decide) (htL _ wd_81) (fun _ h9 => h9) rfl dX1_add_8 ?_
    refine lv_aload_n hx hb dX1_add_11 rfl (lv_at hl 0 rfl) ?_
    refine va_get (D := D) (ci := 1) (v := .int nN) (C := RX1) (T := TX1) (N := 2) hx hb hts (fun _ h => w_in (inlX1 _ h)) hown hK hP 0 rfl rfl 1 (by decide) (htL _ wd_82) (fun _ h9 => h9) rfl dX1_add_12 ?_
    refine lv_iload_n hx hb dX1_add_15 rfl (lv_at hl 1 rfl) ?_
    refine x_wv2 (a := ([(adN, .inr (1, [.ref adNa, .int nN])), (adNa, .inl (cI, 96, .inl fN))] : va_W)) (t := []) (o0 := (F_X6_put fN 96 nN p0)) (fun o : Nat → Int32 => ([(adNa, .inl (cI, 96, .inl o))] : va_W)) (fun o : Nat → Int32 => ([(adN, .inr (1, [.ref adNa, .int nN])), (adNa, .inl (cI, 96, .inl o))] : va_W)) [1] [0] (va_runSN (As := [.ref adNa, .int nN, .int p0]) (rest := []) ⟨hx, hb, hml, hown, hts⟩ (c_X6_put l D cI cL adNa fN 96 nN p0 (by decide) _) ⟨va_cnB 3 hts (gg_ok (fun _ h => w_in h) wd_142) rfl rfl rfl (nm_OverTheShoulder_Letters_23 hN) (htL _ wd_2) (by decide +kernel) ⟨Nat.le_of_ble_eq_true rfl, Nat.le_of_ble_eq_true rfl⟩, (htL _ wd_141), trivial⟩ (x_ps hN hK hP hD [1] rfl rfl) rfl rfl hl.1 rfl (lv_room (Nat.le_of_ble_eq_true rfl)) dX1_add_16 ⟨Nat.zero_le _, Nat.zero_le _⟩) hP hD hS hA rfl (fun _ => rfl) (fun _ => rfl) [(adN, .inr (1, [.ref adNa, .int nN]))] rfl (fun _ => rfl) rfl (fun o_3 H locs eo_3 hP hD hS => ?_)
    have hP : va_P D vwCl [(adN, .inr (1, [.ref adNa, .int nN])), (adNa, .inl (cI, 96, .inl o_3))] _ := hP
    have hD : va_D A [(adN, .inr (1, [.ref adNa, .int nN])), (adNa, .inl (cI, 96, .inl o_3))] := hD
    refine lv_aload_n hx hb dX1_add_19 rfl (lv_at hl 0 rfl) ?_
    refine lv_dup hx hb dX1_add_20 rfl ?_
    refine va_get (D := D) (ci := 1) (v := .int nN) (C := RX1) (T := TX1) (N := 2) hx hb hts (fun _ h => w_in (inlX1 _ h)) hown hK hP 0 rfl rfl 1 (by decide) (htL _ wd_82) (fun _ h9 => h9) rfl dX1_add_21 ?_
    refine lv_iconst (v := 1) hx hb dX1_add_24 (by decide) ?_
    refine lv_iadd hx hb dX1_add_25 ?_
    refine lv_topi (fun x_4 ex_4 => ?_)
    refine va_put (D := D) (ci := 1) (v := .int x_4) (ty := .int) (C := RX1) (T := TX1) (N := 2) hx hb hts (fun _ h => w_in (inlX1 _ h)) tyX1 tyX1_ok nmX1 hown hK hP hD hS 0 rfl rfl 1 (by decide) (htL _ wd_82) (fun _ h9 => h9) rfl (by decide +kernel) rfl rfl (Nat.le_of_ble_eq_true rfl) dX1_add_26 (fun H locs hP hD hS => ?_)
    have hP : va_P D vwCl [(adN, .inr (1, [.ref adNa, .int x_4])), (adNa, .inl (cI, 96, .inl o_3))] _ := hP
    have hD : va_D A [(adN, .inr (1, [.ref adNa, .int x_4])), (adNa, .inl (cI, 96, .inl o_3))] := hD
    have hF1 : F_X1_add fN nN p0 = (o_3, x_4) := (eX1_add_2 fN nN p0 r_1 o_3 x_4 er_1 eo_3 ex_4 c_2)
    exact xv_ret hx hb hr hlocks hP hS (congrArg (fun o : (Nat → Int32) × Int32 => ([(adN, .inr (1, [.ref adNa, .int o.2])), (adNa, .inl (cI, 96, .inl o.1))] : va_W)) hF1).symm dX1_add_29

noncomputable def F_X1_isDigit (p0 : Int32) : Int32 :=
  if p0 < 48 then
  (0)
  else
  (if 57 < p0 then
  (0)
  else
  (1))
theorem nz_X1_isDigit (p0 : Int32) : narrow .boolean (.int (F_X1_isDigit p0)) = .int (F_X1_isDigit p0) := by
  unfold F_X1_isDigit
  try dsimp only
  (repeat' split) <;> rfl
set_option maxRecDepth 100000 in
theorem eX1_isDigit_1 (p0 : Int32) (c_1 : p0 < 48) : F_X1_isDigit p0 = 0 := by exact (if_pos c_1).trans (rfl)
set_option maxRecDepth 100000 in
theorem eX1_isDigit_2 (p0 : Int32) (c_1 : ¬ (p0 < 48)) (c_2 : 57 < p0) : F_X1_isDigit p0 = 0 := by exact (if_neg c_1).trans ((if_pos c_2).trans (rfl))
set_option maxRecDepth 100000 in
theorem eX1_isDigit_3 (p0 : Int32) (c_1 : ¬ (p0 < 48)) (c_2 : ¬ (57 < p0)) : F_X1_isDigit p0 = 1 := by exact (if_neg c_1).trans ((if_neg c_2).trans (rfl))
set_option maxHeartbeats 4000000 in
set_option maxRecDepth 100000 in
theorem c_X1_isDigit (l : Launch) (D : va_G) (cI cL : ClassId)   (p0 : Int32)  : Xi l yX1_isDigit (wm yX1_isDigit cX1_isDigit 1 (some .boolean)) (xR (0) (0)) D (tyA cI cL) [.int p0] [] [] (F_X1_isDigit p0) := by
  intro sz
  refine x_in (cc := cX1_isDigit) (maxL := 1) (ret := (some .boolean)) (by decide) rfl (Nat.le_of_ble_eq_true rfl) (fun p e s m below meth c A ls hfix hr hlocks hN hK hP hAe hD hA hS hl => ?_)
  obtain ⟨hx, hb, hml, hown, hts⟩ := hfix
  rw [← hAe]
  clear hAe
  have hown : s.vm.findClass RX1 = some m.cls := hown
  have htL : ∀ w ∈ wsL_law, w.before ([.int p0] : List Value).toArray s = true := fun w h => hts w (List.mem_cons_of_mem _ h)
  have hl : lv_has ls 1 [(0, .int p0)] := hl
  refine lv_iload_n hx hb dX1_isDigit_0 rfl (lv_at hl 0 rfl) ?_
  refine lv_bipush (v := 48) hx hb dX1_isDigit_1 (by decide) ?_
  refine lv_icmp_lt (tgt := 16) hx hb dX1_isDigit_3 (by decide) (fun c_1 => ?_) (fun c_1 => ?_)
  · refine lv_iconst (v := 0) hx hb dX1_isDigit_16 (by decide) ?_
    have hF1 : F_X1_isDigit p0 = 0 := (eX1_isDigit_1 p0 c_1)
    exact xz_ret hx hb hr hlocks hP hS rfl (congrArg (fun o : Int32 => o) hF1).symm dX1_isDigit_17 rfl
  · refine lv_iload_n hx hb dX1_isDigit_6 rfl (lv_at hl 0 rfl) ?_
    refine lv_bipush (v := 57) hx hb dX1_isDigit_7 (by decide) ?_
    refine lv_icmp_gt (tgt := 16) hx hb dX1_isDigit_9 (by decide) (fun c_2 => ?_) (fun c_2 => ?_)
    · refine lv_iconst (v := 0) hx hb dX1_isDigit_16 (by decide) ?_
      have hF1 : F_X1_isDigit p0 = 0 := (eX1_isDigit_2 p0 c_1 c_2)
      exact xz_ret hx hb hr hlocks hP hS rfl (congrArg (fun o : Int32 => o) hF1).symm dX1_isDigit_17 rfl
    · refine lv_iconst (v := 1) hx hb dX1_isDigit_12 (by decide) ?_
      refine lv_goto (tgt := 17) hx hb dX1_isDigit_13 (by decide) ?_
      have hF1 : F_X1_isDigit p0 = 1 := (eX1_isDigit_3 p0 c_1 c_2)
      exact xz_ret hx hb hr hlocks hP hS rfl (congrArg (fun o : Int32 => o) hF1).symm dX1_isDigit_17 rfl

noncomputable def F_X1_letterAt (fN : Nat → Int32) (nN : Int32) (p0 : Int32) : Int32 :=
  if p0 < 0 then
  ((-1))
  else
  (if nN ≤ p0 then
  ((-1))
  else
  (if 96 ≤ p0 then
  ((-1))
  else
  (let x_4 : Int32 := (fN p0.toNatClampNeg)
  x_4)))
set_option maxRecDepth 100000 in
theorem eX1_letterAt_1 (fN : Nat → Int32) (nN : Int32) (p0 : Int32) (c_1 : p0 < 0) : F_X1_letterAt fN nN p0 = (-1) := by exact (if_pos c_1).trans (rfl)
set_option maxRecDepth 100000 in
theorem eX1_letterAt_2 (fN : Nat → Int32) (nN : Int32) (p0 : Int32) (c_1 : ¬ (p0 < 0)) (c_2 : nN ≤ p0) : F_X1_letterAt fN nN p0 = (-1) := by exact (if_neg c_1).trans ((if_pos c_2).trans (rfl))
set_option maxRecDepth 100000 in
theorem eX1_letterAt_3 (fN : Nat → Int32) (nN : Int32) (p0 : Int32) (c_1 : ¬ (p0 < 0)) (c_2 : ¬ (nN ≤ p0)) (c_3 : 96 ≤ p0) : F_X1_letterAt fN nN p0 = (-1) := by exact (if_neg c_1).trans ((if_neg c_2).trans ((if_pos c_3).trans (rfl)))
set_option maxRecDepth 100000 in
theorem eX1_letterAt_4 (fN : Nat → Int32) (nN : Int32) (p0 : Int32) (x_4 : Int32) (ex_4 : x_4 = (fN p0.toNatClampNeg)) (c_1 : ¬ (p0 < 0)) (c_2 : ¬ (nN ≤ p0)) (c_3 : ¬ (96 ≤ p0)) : F_X1_letterAt fN nN p0 = x_4 := by subst ex_4; exact (if_neg c_1).trans ((if_neg c_2).trans ((if_neg c_3).trans (rfl)))
set_option maxHeartbeats 4000000 in
set_option maxRecDepth 100000 in
theorem c_X1_letterAt (l : Launch) (D : va_G) (cI cL : ClassId)   (adN : Nat) (adNa : Nat) (fN : Nat → Int32) (nN : Int32) (p0 : Int32)  : Xi l yX1_letterAt (wm yX1_letterAt cX1_letterAt 2 (some .int)) (xR (0) (0)) D (tyA cI cL) [.ref adN, .int p0] [(adN, .inr (1, [.ref adNa, .int nN])), (adNa, .inl (cI, 96, .inl fN))] [(adN, .inr (1, [.ref adNa, .int nN])), (adNa, .inl (cI, 96, .inl fN))] (F_X1_letterAt fN nN p0) := by
  intro sz
  refine x_in (cc := cX1_letterAt) (maxL := 2) (ret := (some .int)) (by decide) rfl (Nat.le_of_ble_eq_true rfl) (fun p e s m below meth c A ls hfix hr hlocks hN hK hP hAe hD hA hS hl => ?_)
  obtain ⟨hx, hb, hml, hown, hts⟩ := hfix
  rw [← hAe]
  clear hAe
  have hown : s.vm.findClass RX1 = some m.cls := hown
  have htL : ∀ w ∈ wsL_law, w.before ([.ref adN, .int p0] : List Value).toArray s = true := fun w h => hts w (List.mem_cons_of_mem _ h)
  have hl : lv_has ls 2 [(0, .ref adN), (1, .int p0)] := hl
  refine lv_iload_n hx hb dX1_letterAt_0 rfl (lv_at hl 1 rfl) ?_
  refine lv_if_lt (tgt := 30) hx hb dX1_letterAt_1 (by decide) (fun c_1 => ?_) (fun c_1 => ?_)
  · refine lv_iconst (v := (-1)) hx hb dX1_letterAt_30 (by decide) ?_
    have hF1 : F_X1_letterAt fN nN p0 = (-1) := (eX1_letterAt_1 fN nN p0 c_1)
    exact xi_ret hx hb hr hlocks hP hS rfl (congrArg (fun o : Int32 => o) hF1).symm dX1_letterAt_31
  · refine lv_iload_n hx hb dX1_letterAt_4 rfl (lv_at hl 1 rfl) ?_
    refine lv_aload_n hx hb dX1_letterAt_5 rfl (lv_at hl 0 rfl) ?_
    refine va_get (D := D) (ci := 1) (v := .int nN) (C := RX1) (T := TX1) (N := 2) hx hb hts (fun _ h => w_in (inlX1 _ h)) hown hK hP 0 rfl rfl 1 (by decide) (htL _ wd_82) (fun _ h9 => h9) rfl dX1_letterAt_6 ?_
    refine lv_icmp_ge (tgt := 30) hx hb dX1_letterAt_9 (by decide) (fun c_2 => ?_) (fun c_2 => ?_)
    · refine lv_iconst (v := (-1)) hx hb dX1_letterAt_30 (by decide) ?_
      have hF1 : F_X1_letterAt fN nN p0 = (-1) := (eX1_letterAt_2 fN nN p0 c_1 c_2)
      exact xi_ret hx hb hr hlocks hP hS rfl (congrArg (fun o : Int32 => o) hF1).symm dX1_letterAt_31
    · refine lv_iload_n hx hb dX1_letterAt_12 rfl (lv_at hl 1 rfl) ?_
      refine lv_aload_n hx hb dX1_letterAt_13 rfl (lv_at hl 0 rfl) ?_
      refine va_get (D := D) (ci := 1) (v := .ref adNa) (C := RX1) (T := TX1) (N := 2) hx hb hts (fun _ h => w_in (inlX1 _ h)) hown hK hP 0 rfl rfl 0 (by decide) (htL _ wd_81) (fun _ h9 => h9) rfl dX1_letterAt_14 ?_
      refine va_alen (v := 96) hx hb hK hP 1 0 rfl rfl rfl dX1_letterAt_17 ?_
      refine lv_icmp_ge (tgt := 30) hx hb dX1_letterAt_18 (by decide) (fun c_3 => ?_) (fun c_3 => ?_)
      · refine lv_iconst (v := (-1)) hx hb dX1_letterAt_30 (by decide) ?_
        have hF1 : F_X1_letterAt fN nN p0 = (-1) := (eX1_letterAt_3 fN nN p0 c_1 c_2 c_3)
        exact xi_ret hx hb hr hlocks hP hS rfl (congrArg (fun o : Int32 => o) hF1).symm dX1_letterAt_31
      · refine lv_aload_n hx hb dX1_letterAt_21 rfl (lv_at hl 0 rfl) ?_
        refine va_get (D := D) (ci := 1) (v := .ref adNa) (C := RX1) (T := TX1) (N := 2) hx hb hts (fun _ h => w_in (inlX1 _ h)) hown hK hP 0 rfl rfl 0 (by decide) (htL _ wd_81) (fun _ h9 => h9) rfl dX1_letterAt_22 ?_
        refine lv_iload_n hx hb dX1_letterAt_25 rfl (lv_at hl 1 rfl) ?_
        refine va_iald hx hb hK hP 1 0 rfl rfl (x_vp (by decide) (by assumption) (by assumption)) dX1_letterAt_26 ?_
        refine lv_topi (fun x_4 ex_4 => ?_)
        refine lv_goto (tgt := 31) hx hb dX1_letterAt_27 (by decide) ?_
        have hF1 : F_X1_letterAt fN nN p0 = x_4 := (eX1_letterAt_4 fN nN p0 x_4 ex_4 c_1 c_2 c_3)
        exact xi_ret hx hb hr hlocks hP hS rfl (congrArg (fun o : Int32 => o) hF1).symm dX1_letterAt_31

noncomputable def F_X1_digitAt (fN : Nat → Int32) (nN : Int32) (p0 : Int32) : Int32 :=
  let r_1 : Int32 := (F_X1_letterAt fN nN p0)
  let r_2 : Int32 := (F_X1_isDigit r_1)
  if r_2 = 0 then
  (0)
  else
  (let x_4 : Int32 := (r_1 - 48)
  x_4)
set_option maxRecDepth 100000 in
theorem eX1_digitAt_1 (fN : Nat → Int32) (nN : Int32) (p0 : Int32) (r_1 : Int32) (r_2 : Int32) (er_1 : r_1 = (F_X1_letterAt fN nN p0)) (er_2 : r_2 = (F_X1_isDigit r_1)) (c_3 : r_2 = 0) : F_X1_digitAt fN nN p0 = 0 := by subst er_1 er_2; exact (if_pos c_3).trans (rfl)
set_option maxRecDepth 100000 in
theorem eX1_digitAt_2 (fN : Nat → Int32) (nN : Int32) (p0 : Int32) (r_1 : Int32) (r_2 : Int32) (x_4 : Int32) (er_1 : r_1 = (F_X1_letterAt fN nN p0)) (er_2 : r_2 = (F_X1_isDigit r_1)) (ex_4 : x_4 = (r_1 - 48)) (c_3 : ¬ (r_2 = 0)) : F_X1_digitAt fN nN p0 = x_4 := by subst er_1 er_2 ex_4; exact (if_neg c_3).trans (rfl)
set_option maxHeartbeats 4000000 in
set_option maxRecDepth 100000 in
theorem c_X1_digitAt (l : Launch) (D : va_G) (cI cL : ClassId)   (adN : Nat) (adNa : Nat) (fN : Nat → Int32) (nN : Int32) (p0 : Int32)  : Xi l yX1_digitAt (wm yX1_digitAt cX1_digitAt 3 (some .int)) (xR (1) (21)) D (tyA cI cL) [.ref adN, .int p0] [(adN, .inr (1, [.ref adNa, .int nN])), (adNa, .inl (cI, 96, .inl fN))] [(adN, .inr (1, [.ref adNa, .int nN])), (adNa, .inl (cI, 96, .inl fN))] (F_X1_digitAt fN nN p0) := by
  intro sz
  refine x_in (cc := cX1_digitAt) (maxL := 3) (ret := (some .int)) (by decide) rfl (Nat.le_of_ble_eq_true rfl) (fun p e s m below meth c A ls hfix hr hlocks hN hK hP hAe hD hA hS hl => ?_)
  obtain ⟨hx, hb, hml, hown, hts⟩ := hfix
  rw [← hAe]
  clear hAe
  have hown : s.vm.findClass RX1 = some m.cls := hown
  have htL : ∀ w ∈ wsL_law, w.before ([.ref adN, .int p0] : List Value).toArray s = true := fun w h => hts w (List.mem_cons_of_mem _ h)
  have hl : lv_has ls 3 [(0, .ref adN), (1, .int p0)] := hl
  refine lv_aload_n hx hb dX1_digitAt_0 rfl (lv_at hl 0 rfl) ?_
  refine lv_iload_n hx hb dX1_digitAt_1 rfl (lv_at hl 1 rfl) ?_
  refine x_ci [0, 1] (va_runV (As := [.int p0]) (rest := []) ⟨hx, hb, hml, hown, hts⟩ (c_X1_letterAt l D cI cL adN adNa fN nN p0 _) (cwV 1 hts (gv_ok (fun _ h => w_in h) wd_183 wd_180 wd_181 wd_182 wd_19) rfl rfl rfl (by decide +kernel) ⟨Nat.le_of_ble_eq_true rfl, Nat.le_of_ble_eq_true rfl⟩) (x_pv hN hK hP hD [0, 1] rfl rfl (ci := 1) (q0 := 0) rfl rfl) rfl rfl hl.1 rfl (lv_room (Nat.le_of_ble_eq_true rfl)) dX1_digitAt_2 ⟨Nat.zero_le _, Nat.zero_le _⟩) hP hD hS hA rfl (fun r_1 H locs er_1 hP hS => ?_)
  refine lv_istore_n (lv' := [(2, .int r_1), (0, .ref adN), (1, .int p0)]) hx hb dX1_digitAt_5 rfl hl (by decide) rfl (fun ls hl => ?_)
  refine lv_iload_n hx hb dX1_digitAt_6 rfl (lv_at hl 0 rfl) ?_
  refine x_ci [] (va_runS (As := [.int r_1]) (rest := []) ⟨hx, hb, hml, hown, hts⟩ (c_X1_isDigit l D cI cL r_1 _) (va_cwS 1 hts (gs_ok (fun _ h => w_in h) wd_190 wd_188 wd_189 wd_19) rfl rfl rfl (by decide +kernel) ⟨Nat.le_of_ble_eq_true rfl, Nat.le_of_ble_eq_true rfl⟩) (x_ps hN hK hP hD [] rfl rfl) rfl rfl hl.1 rfl (lv_room (Nat.le_of_ble_eq_true rfl)) dX1_digitAt_7 ⟨Nat.zero_le _, Nat.zero_le _⟩) hP hD hS hA rfl (fun r_2 H locs er_2 hP hS => ?_)
  refine lv_if_eq (tgt := 20) hx hb dX1_digitAt_10 (by decide) (fun c_3 => ?_) (fun c_3 => ?_)
  · refine lv_iconst (v := 0) hx hb dX1_digitAt_20 (by decide) ?_
    have hF1 : F_X1_digitAt fN nN p0 = 0 := (eX1_digitAt_1 fN nN p0 r_1 r_2 er_1 er_2 c_3)
    exact xi_ret hx hb hr hlocks hP hS rfl (congrArg (fun o : Int32 => o) hF1).symm dX1_digitAt_21
  · refine lv_iload_n hx hb dX1_digitAt_13 rfl (lv_at hl 0 rfl) ?_
    refine lv_bipush (v := 48) hx hb dX1_digitAt_14 (by decide) ?_
    refine lv_isub hx hb dX1_digitAt_16 ?_
    refine lv_topi (fun x_4 ex_4 => ?_)
    refine lv_goto (tgt := 21) hx hb dX1_digitAt_17 (by decide) ?_
    have hF1 : F_X1_digitAt fN nN p0 = x_4 := (eX1_digitAt_2 fN nN p0 r_1 r_2 x_4 er_1 er_2 ex_4 c_3)
    exact xi_ret hx hb hr hlocks hP hS rfl (congrArg (fun o : Int32 => o) hF1).symm dX1_digitAt_21

noncomputable def F_X1_numberAt (fN : Nat → Int32) (nN : Int32) (p0 : Int32) : Int32 :=
  let r_1 : Int32 := (F_X1_digitAt fN nN p0)
  let x_2 : Int32 := (p0 + 1)
  let r_3 : Int32 := (F_X1_letterAt fN nN x_2)
  let r_4 : Int32 := (F_X1_isDigit r_3)
  if r_4 = 0 then
  (r_1)
  else
  (let x_6 : Int32 := (10 * r_1)
  let x_7 : Int32 := (p0 + 1)
  let r_8 : Int32 := (F_X1_digitAt fN nN x_7)
  let x_9 : Int32 := (x_6 + r_8)
  x_9)
set_option maxRecDepth 100000 in
theorem eX1_numberAt_1 (fN : Nat → Int32) (nN : Int32) (p0 : Int32) (r_1 : Int32) (x_2 : Int32) (r_3 : Int32) (r_4 : Int32) (er_1 : r_1 = (F_X1_digitAt fN nN p0)) (ex_2 : x_2 = (p0 + 1)) (er_3 : r_3 = (F_X1_letterAt fN nN x_2)) (er_4 : r_4 = (F_X1_isDigit r_3)) (c_5 : r_4 = 0) : F_X1_numberAt fN nN p0 = r_1 := by subst er_1 ex_2 er_3 er_4; exact (if_pos c_5).trans (rfl)
set_option maxRecDepth 100000 in
theorem eX1_numberAt_2 (fN : Nat → Int32) (nN : Int32) (p0 : Int32) (r_1 : Int32) (x_2 : Int32) (r_3 : Int32) (r_4 : Int32) (x_6 : Int32) (x_7 : Int32) (r_8 : Int32) (x_9 : Int32) (er_1 : r_1 = (F_X1_digitAt fN nN p0)) (ex_2 : x_2 = (p0 + 1)) (er_3 : r_3 = (F_X1_letterAt fN nN x_2)) (er_4 : r_4 = (F_X1_isDigit r_3)) (ex_6 : x_6 = (10 * r_1)) (ex_7 : x_7 = (p0 + 1)) (er_8 : r_8 = (F_X1_digitAt fN nN x_7)) (ex_9 : x_9 = (x_6 + r_8)) (c_5 : ¬ (r_4 = 0)) : F_X1_numberAt fN nN p0 = x_9 := by subst er_1 ex_2 er_3 er_4 ex_6 ex_7 er_8 ex_9; exact (if_neg c_5).trans (rfl)
set_option maxHeartbeats 4000000 in
set_option maxRecDepth 100000 in
theorem c_X1_numberAt (l : Launch) (D : va_G) (cI cL : ClassId)   (adN : Nat) (adNa : Nat) (fN : Nat → Int32) (nN : Int32) (p0 : Int32)  : Xi l yX1_numberAt (wm yX1_numberAt cX1_numberAt 3 (some .int)) (xR (2) (43)) D (tyA cI cL) [.ref adN, .int p0] [(adN, .inr (1, [.ref adNa, .int nN])), (adNa, .inl (cI, 96, .inl fN))] [(adN, .inr (1, [.ref adNa, .int nN])), (adNa, .inl (cI, 96, .inl fN))] (F_X1_numberAt fN nN p0) := by
  intro sz
  refine x_in (cc := cX1_numberAt) (maxL := 3) (ret := (some .int)) (by decide) rfl (Nat.le_of_ble_eq_true rfl) (fun p e s m below meth c A ls hfix hr hlocks hN hK hP hAe hD hA hS hl => ?_)
  obtain ⟨hx, hb, hml, hown, hts⟩ := hfix
  rw [← hAe]
  clear hAe
  have hown : s.vm.findClass RX1 = some m.cls := hown
  have htL : ∀ w ∈ wsL_law, w.before ([.ref adN, .int p0] : List Value).toArray s = true := fun w h => hts w (List.mem_cons_of_mem _ h)
  have hl : lv_has ls 3 [(0, .ref adN), (1, .int p0)] := hl
  refine lv_aload_n hx hb dX1_numberAt_0 rfl (lv_at hl 0 rfl) ?_
  refine lv_iload_n hx hb dX1_numberAt_1 rfl (lv_at hl 1 rfl) ?_
  refine x_ci [0, 1] (va_runV (As := [.int p0]) (rest := []) ⟨hx, hb, hml, hown, hts⟩ (c_X1_digitAt l D cI cL adN adNa fN nN p0 _) (cwV 1 hts (gv_ok (fun _ h => w_in h) wd_206 wd_203 wd_204 wd_205 wd_19) rfl rfl rfl (by decide +kernel) ⟨Nat.le_of_ble_eq_true rfl, Nat.le_of_ble_eq_true rfl⟩) (x_pv hN hK hP hD [0, 1] rfl rfl (ci := 1) (q0 := 0) rfl rfl) rfl rfl hl.1 rfl (lv_room (Nat.le_of_ble_eq_true rfl)) dX1_numberAt_2 ⟨Nat.zero_le _, Nat.zero_le _⟩) hP hD hS hA rfl (fun r_1 H locs er_1 hP hS => ?_)
  refine lv_istore_n (lv' := [(2, .int r_1), (0, .ref adN), (1, .int p0)]) hx hb dX1_numberAt_5 rfl hl (by decide) rfl (fun ls hl => ?_)
  refine lv_aload_n hx hb dX1_numberAt_6 rfl (lv_at hl 1 rfl) ?_
  refine lv_iload_n hx hb dX1_numberAt_7 rfl (lv_at hl 2 rfl) ?_
  refine lv_iconst (v := 1) hx hb dX1_numberAt_8 (by decide) ?_
  refine lv_iadd hx hb dX1_numberAt_9 ?_
  refine lv_topi (fun x_2 ex_2 => ?_)
  refine x_ci [0, 1] (va_runV (As := [.int x_2]) (rest := []) ⟨hx, hb, hml, hown, hts⟩ (c_X1_letterAt l D cI cL adN adNa fN nN x_2 _) (cwV 1 hts (gv_ok (fun _ h => w_in h) wd_183 wd_180 wd_181 wd_182 wd_19) rfl rfl rfl (by decide +kernel) ⟨Nat.le_of_ble_eq_true rfl, Nat.le_of_ble_eq_true rfl⟩) (x_pv hN hK hP hD [0, 1] rfl rfl (ci := 1) (q0 := 0) rfl rfl) rfl rfl hl.1 rfl (lv_room (Nat.le_of_ble_eq_true rfl)) dX1_numberAt_10 ⟨Nat.zero_le _, Nat.zero_le _⟩) hP hD hS hA rfl (fun r_3 H locs er_3 hP hS => ?_)
  refine x_ci [] (va_runS (As := [.int r_3]) (rest := []) ⟨hx, hb, hml, hown, hts⟩ (c_X1_isDigit l D cI cL r_3 _) (va_cwS 1 hts (gs_ok (fun _ h => w_in h) wd_190 wd_188 wd_189 wd_19) rfl rfl rfl (by decide +kernel) ⟨Nat.le_of_ble_eq_true rfl, Nat.le_of_ble_eq_true rfl⟩) (x_ps hN hK hP hD [] rfl rfl) rfl rfl hl.1 rfl (lv_room (Nat.le_of_ble_eq_true rfl)) dX1_numberAt_13 ⟨Nat.zero_le _, Nat.zero_le _⟩) hP hD hS hA rfl (fun r_4 H locs er_4 hP hS => ?_)
  refine lv_if_eq (tgt := 34) hx hb dX1_numberAt_16 (by decide) (fun c_5 => ?_) (fun c_5 => ?_)
  · refine lv_iload_n hx hb dX1_numberAt_34 rfl (lv_at hl 0 rfl) ?_
    have hF1 : F_X1_numberAt fN nN p0 = r_1 := (eX1_numberAt_1 fN nN p0 r_1 x_2 r_3 r_4 er_1 ex_2 er_3 er_4 c_5)
    exact xi_ret hx hb hr hlocks hP hS rfl (congrArg (fun o : Int32 => o) hF1).symm dX1_numberAt_35
  · refine lv_bipush (v := 10) hx hb dX1_numberAt_19 (by decide) ?_
    refine lv_iload_n hx hb dX1_numberAt_21 rfl (lv_at hl 0 rfl) ?_
    refine lv_imul hx hb dX1_numberAt_22 ?_
    refine lv_topi (fun x_6 ex_6 => ?_)
    refine lv_aload_n hx hb dX1_numberAt_23 rfl (lv_at hl 1 rfl) ?_
    refine lv_iload_n hx hb dX1_numberAt_24 rfl (lv_at hl 2 rfl) ?_
    refine lv_iconst (v := 1) hx hb dX1_numberAt_25 (by decide) ?_
    refine lv_iadd hx hb dX1_numberAt_26 ?_
    refine lv_topi (fun x_7 ex_7 => ?_)
    refine x_ci [0, 1] (va_runV (As := [.int x_7]) (rest := [.int x_6]) ⟨hx, hb, hml, hown, hts⟩ (c_X1_digitAt l D cI cL adN adNa fN nN x_7 _) (cwV 1 hts (gv_ok (fun _ h => w_in h) wd_206 wd_203 wd_204 wd_205 wd_19) rfl rfl rfl (by decide +kernel) ⟨Nat.le_of_ble_eq_true rfl, Nat.le_of_ble_eq_true rfl⟩) (x_pv hN hK hP hD [0, 1] rfl rfl (ci := 1) (q0 := 0) rfl rfl) rfl rfl hl.1 rfl (lv_room (Nat.le_of_ble_eq_true rfl)) dX1_numberAt_27 ⟨Nat.zero_le _, Nat.zero_le _⟩) hP hD hS hA rfl (fun r_8 H locs er_8 hP hS => ?_)
    refine lv_iadd hx hb dX1_numberAt_30 ?_
    refine lv_topi (fun x_9 ex_9 => ?_)
    refine lv_goto (tgt := 35) hx hb dX1_numberAt_31 (by decide) ?_
    have hF1 : F_X1_numberAt fN nN p0 = x_9 := (eX1_numberAt_2 fN nN p0 r_1 x_2 r_3 r_4 x_6 x_7 r_8 x_9 er_1 ex_2 er_3 er_4 ex_6 ex_7 er_8 ex_9 c_5)
    exact xi_ret hx hb hr hlocks hP hS rfl (congrArg (fun o : Int32 => o) hF1).symm dX1_numberAt_35

noncomputable def F_X1_tiltAt (fN : Nat → Int32) (nN : Int32) (p0 : Int32) : Int32 :=
  let r_1 : Int32 := (F_X1_letterAt fN nN p0)
  if r_1 = 43 then
  (1)
  else
  (if r_1 = 45 then
  ((-1))
  else
  (0))
set_option maxRecDepth 100000 in
theorem eX1_tiltAt_1 (fN : Nat → Int32) (nN : Int32) (p0 : Int32) (r_1 : Int32) (er_1 : r_1 = (F_X1_letterAt fN nN p0)) (c_2 : r_1 = 43) : F_X1_tiltAt fN nN p0 = 1 := by subst er_1; exact (if_pos c_2).trans (rfl)
set_option maxRecDepth 100000 in
theorem eX1_tiltAt_2 (fN : Nat → Int32) (nN : Int32) (p0 : Int32) (r_1 : Int32) (er_1 : r_1 = (F_X1_letterAt fN nN p0)) (c_2 : ¬ (r_1 = 43)) (c_3 : r_1 = 45) : F_X1_tiltAt fN nN p0 = (-1) := by subst er_1; exact (if_neg c_2).trans ((if_pos c_3).trans (rfl))
set_option maxRecDepth 100000 in
theorem eX1_tiltAt_3 (fN : Nat → Int32) (nN : Int32) (p0 : Int32) (r_1 : Int32) (er_1 : r_1 = (F_X1_letterAt fN nN p0)) (c_2 : ¬ (r_1 = 43)) (c_3 : ¬ (r_1 = 45)) : F_X1_tiltAt fN nN p0 = 0 := by subst er_1; exact (if_neg c_2).trans ((if_neg c_3).trans (rfl))
set_option maxHeartbeats 4000000 in
set_option maxRecDepth 100000 in
theorem c_X1_tiltAt (l : Launch) (D : va_G) (cI cL : ClassId)   (adN : Nat) (adNa : Nat) (fN : Nat → Int32) (nN : Int32) (p0 : Int32)  : Xi l yX1_tiltAt (wm yX1_tiltAt cX1_tiltAt 2 (some .int)) (xR (1) (21)) D (tyA cI cL) [.ref adN, .int p0] [(adN, .inr (1, [.ref adNa, .int nN])), (adNa, .inl (cI, 96, .inl fN))] [(adN, .inr (1, [.ref adNa, .int nN])), (adNa, .inl (cI, 96, .inl fN))] (F_X1_tiltAt fN nN p0) := by
  intro sz
  refine x_in (cc := cX1_tiltAt) (maxL := 2) (ret := (some .int)) (by decide) rfl (Nat.le_of_ble_eq_true rfl) (fun p e s m below meth c A ls hfix hr hlocks hN hK hP hAe hD hA hS hl => ?_)
  obtain ⟨hx, hb, hml, hown, hts⟩ := hfix
  rw [← hAe]
  clear hAe
  have hown : s.vm.findClass RX1 = some m.cls := hown
  have htL : ∀ w ∈ wsL_law, w.before ([.ref adN, .int p0] : List Value).toArray s = true := fun w h => hts w (List.mem_cons_of_mem _ h)
  have hl : lv_has ls 2 [(0, .ref adN), (1, .int p0)] := hl
  refine lv_aload_n hx hb dX1_tiltAt_0 rfl (lv_at hl 0 rfl) ?_
  refine lv_iload_n hx hb dX1_tiltAt_1 rfl (lv_at hl 1 rfl) ?_
  refine x_ci [0, 1] (va_runV (As := [.int p0]) (rest := []) ⟨hx, hb, hml, hown, hts⟩ (c_X1_letterAt l D cI cL adN adNa fN nN p0 _) (cwV 1 hts (gv_ok (fun _ h => w_in h) wd_183 wd_180 wd_181 wd_182 wd_19) rfl rfl rfl (by decide +kernel) ⟨Nat.le_of_ble_eq_true rfl, Nat.le_of_ble_eq_true rfl⟩) (x_pv hN hK hP hD [0, 1] rfl rfl (ci := 1) (q0 := 0) rfl rfl) rfl rfl hl.1 rfl (lv_room (Nat.le_of_ble_eq_true rfl)) dX1_tiltAt_2 ⟨Nat.zero_le _, Nat.zero_le _⟩) hP hD hS hA rfl (fun r_1 H locs er_1 hP hS => ?_)
  by_cases c_2 : r_1 = 43
  · refine lv_lookup (off := 27) (tgt := 32) hx hb dX1_tiltAt_5 (by decide) (by rw [c_2]; rfl) (by decide) ?_
    refine lv_iconst (v := 1) hx hb dX1_tiltAt_32 (by decide) ?_
    have hF1 : F_X1_tiltAt fN nN p0 = 1 := (eX1_tiltAt_1 fN nN p0 r_1 er_1 c_2)
    exact xi_ret hx hb hr hlocks hP hS rfl (congrArg (fun o : Int32 => o) hF1).symm dX1_tiltAt_33
  · by_cases c_3 : r_1 = 45
    · refine lv_lookup (off := 29) (tgt := 34) hx hb dX1_tiltAt_5 (by decide) (by rw [c_3]; rfl) (by decide) ?_
      refine lv_iconst (v := (-1)) hx hb dX1_tiltAt_34 (by decide) ?_
      have hF1 : F_X1_tiltAt fN nN p0 = (-1) := (eX1_tiltAt_2 fN nN p0 r_1 er_1 c_2 c_3)
      exact xi_ret hx hb hr hlocks hP hS rfl (congrArg (fun o : Int32 => o) hF1).symm dX1_tiltAt_35
    · refine lv_lookup (off := 31) (tgt := 36) hx hb dX1_tiltAt_5 (by decide) (by simp only [Op.lookupswitch.offset]; rw [if_neg (x_nk (z := 43) c_2 rfl), if_neg (x_nk (z := 45) c_3 rfl)]) (by decide) ?_
      refine lv_iconst (v := 0) hx hb dX1_tiltAt_36 (by decide) ?_
      have hF1 : F_X1_tiltAt fN nN p0 = 0 := (eX1_tiltAt_3 fN nN p0 r_1 er_1 c_2 c_3)
      exact xi_ret hx hb hr hlocks hP hS rfl (congrArg (fun o : Int32 => o) hF1).symm dX1_tiltAt_37

noncomputable def F_X1_behindTilt (fN : Nat → Int32) (nN : Int32) (p0 : Int32) : Int32 :=
  let r_1 : Int32 := (F_X1_letterAt fN nN p0)
  if r_1 = 43 then
  (let x_3 : Int32 := (p0 + 1)
  let r_4 : Int32 := (F_X1_letterAt fN nN x_3)
  if r_4 = 59 then
  (let x_7 : Int32 := (p0 + 2)
  x_7)
  else
  (let x_6 : Int32 := ((-2) - p0)
  x_6))
  else
  (if r_1 = 45 then
  (let x_9 : Int32 := (p0 + 1)
  let r_10 : Int32 := (F_X1_letterAt fN nN x_9)
  if r_10 = 59 then
  (let x_13 : Int32 := (p0 + 2)
  x_13)
  else
  (let x_12 : Int32 := ((-2) - p0)
  x_12))
  else
  (if r_1 = 48 then
  (let x_15 : Int32 := (p0 + 1)
  let r_16 : Int32 := (F_X1_letterAt fN nN x_15)
  if r_16 = 59 then
  (let x_19 : Int32 := (p0 + 2)
  x_19)
  else
  (let x_18 : Int32 := ((-2) - p0)
  x_18))
  else
  (let x_20 : Int32 := ((-1) - p0)
  x_20)))
set_option maxRecDepth 100000 in
theorem eX1_behindTilt_1 (fN : Nat → Int32) (nN : Int32) (p0 : Int32) (r_1 : Int32) (x_3 : Int32) (r_4 : Int32) (x_6 : Int32) (er_1 : r_1 = (F_X1_letterAt fN nN p0)) (ex_3 : x_3 = (p0 + 1)) (er_4 : r_4 = (F_X1_letterAt fN nN x_3)) (ex_6 : x_6 = ((-2) - p0)) (c_2 : r_1 = 43) (c_5 : ¬ (r_4 = 59)) : F_X1_behindTilt fN nN p0 = x_6 := by subst er_1 ex_3 er_4 ex_6; exact (if_pos c_2).trans ((if_neg c_5).trans (rfl))
set_option maxRecDepth 100000 in
theorem eX1_behindTilt_2 (fN : Nat → Int32) (nN : Int32) (p0 : Int32) (r_1 : Int32) (x_3 : Int32) (r_4 : Int32) (x_7 : Int32) (er_1 : r_1 = (F_X1_letterAt fN nN p0)) (ex_3 : x_3 = (p0 + 1)) (er_4 : r_4 = (F_X1_letterAt fN nN x_3)) (ex_7 : x_7 = (p0 + 2)) (c_2 : r_1 = 43) (c_5 : r_4 = 59) : F_X1_behindTilt fN nN p0 = x_7 := by subst er_1 ex_3 er_4 ex_7; exact (if_pos c_2).trans ((if_pos c_5).trans (rfl))
set_option maxRecDepth 100000 in
theorem eX1_behindTilt_3 (fN : Nat → Int32) (nN : Int32) (p0 : Int32) (r_1 : Int32) (x_9 : Int32) (r_10 : Int32) (x_12 : Int32) (er_1 : r_1 = (F_X1_letterAt fN nN p0)) (ex_9 : x_9 = (p0 + 1)) (er_10 : r_10 = (F_X1_letterAt fN nN x_9)) (ex_12 : x_12 = ((-2) - p0)) (c_2 : ¬ (r_1 = 43)) (c_8 : r_1 = 45) (c_11 : ¬ (r_10 = 59)) : F_X1_behindTilt fN nN p0 = x_12 := by subst er_1 ex_9 er_10 ex_12; exact (if_neg c_2).trans ((if_pos c_8).trans ((if_neg c_11).trans (rfl)))
set_option maxRecDepth 100000 in
theorem eX1_behindTilt_4 (fN : Nat → Int32) (nN : Int32) (p0 : Int32) (r_1 : Int32) (x_9 : Int32) (r_10 : Int32) (x_13 : Int32) (er_1 : r_1 = (F_X1_letterAt fN nN p0)) (ex_9 : x_9 = (p0 + 1)) (er_10 : r_10 = (F_X1_letterAt fN nN x_9)) (ex_13 : x_13 = (p0 + 2)) (c_2 : ¬ (r_1 = 43)) (c_8 : r_1 = 45) (c_11 : r_10 = 59) : F_X1_behindTilt fN nN p0 = x_13 := by subst er_1 ex_9 er_10 ex_13; exact (if_neg c_2).trans ((if_pos c_8).trans ((if_pos c_11).trans (rfl)))
set_option maxRecDepth 100000 in
theorem eX1_behindTilt_5 (fN : Nat → Int32) (nN : Int32) (p0 : Int32) (r_1 : Int32) (x_15 : Int32) (r_16 : Int32) (x_18 : Int32) (er_1 : r_1 = (F_X1_letterAt fN nN p0)) (ex_15 : x_15 = (p0 + 1)) (er_16 : r_16 = (F_X1_letterAt fN nN x_15)) (ex_18 : x_18 = ((-2) - p0)) (c_2 : ¬ (r_1 = 43)) (c_8 : ¬ (r_1 = 45)) (c_14 : r_1 = 48) (c_17 : ¬ (r_16 = 59)) : F_X1_behindTilt fN nN p0 = x_18 := by subst er_1 ex_15 er_16 ex_18; exact (if_neg c_2).trans ((if_neg c_8).trans ((if_pos c_14).trans ((if_neg c_17).trans (rfl))))
set_option maxRecDepth 100000 in
theorem eX1_behindTilt_6 (fN : Nat → Int32) (nN : Int32) (p0 : Int32) (r_1 : Int32) (x_15 : Int32) (r_16 : Int32) (x_19 : Int32) (er_1 : r_1 = (F_X1_letterAt fN nN p0)) (ex_15 : x_15 = (p0 + 1)) (er_16 : r_16 = (F_X1_letterAt fN nN x_15)) (ex_19 : x_19 = (p0 + 2)) (c_2 : ¬ (r_1 = 43)) (c_8 : ¬ (r_1 = 45)) (c_14 : r_1 = 48) (c_17 : r_16 = 59) : F_X1_behindTilt fN nN p0 = x_19 := by subst er_1 ex_15 er_16 ex_19; exact (if_neg c_2).trans ((if_neg c_8).trans ((if_pos c_14).trans ((if_pos c_17).trans (rfl))))
set_option maxRecDepth 100000 in
theorem eX1_behindTilt_7 (fN : Nat → Int32) (nN : Int32) (p0 : Int32) (r_1 : Int32) (x_20 : Int32) (er_1 : r_1 = (F_X1_letterAt fN nN p0)) (ex_20 : x_20 = ((-1) - p0)) (c_2 : ¬ (r_1 = 43)) (c_8 : ¬ (r_1 = 45)) (c_14 : ¬ (r_1 = 48)) : F_X1_behindTilt fN nN p0 = x_20 := by subst er_1 ex_20; exact (if_neg c_2).trans ((if_neg c_8).trans ((if_neg c_14).trans (rfl)))
set_option maxHeartbeats 4000000 in
set_option maxRecDepth 100000 in
theorem c_X1_behindTilt (l : Launch) (D : va_G) (cI cL : ClassId)   (adN : Nat) (adNa : Nat) (fN : Nat → Int32) (nN : Int32) (p0 : Int32)  : Xi l yX1_behindTilt (wm yX1_behindTilt cX1_behindTilt 3 (some .int)) (xR (1) (21)) D (tyA cI cL) [.ref adN, .int p0] [(adN, .inr (1, [.ref adNa, .int nN])), (adNa, .inl (cI, 96, .inl fN))] [(adN, .inr (1, [.ref adNa, .int nN])), (adNa, .inl (cI, 96, .inl fN))] (F_X1_behindTilt fN nN p0) := by
  intro sz
  refine x_in (cc := cX1_behindTilt) (maxL := 3) (ret := (some .int)) (by decide) rfl (Nat.le_of_ble_eq_true rfl) (fun p e s m below meth c A ls hfix hr hlocks hN hK hP hAe hD hA hS hl => ?_)
  obtain ⟨hx, hb, hml, hown, hts⟩ := hfix
  rw [← hAe]
  clear hAe
  have hown : s.vm.findClass RX1 = some m.cls := hown
  have htL : ∀ w ∈ wsL_law, w.before ([.ref adN, .int p0] : List Value).toArray s = true := fun w h => hts w (List.mem_cons_of_mem _ h)
  have hl : lv_has ls 3 [(0, .ref adN), (1, .int p0)] := hl
  refine lv_aload_n hx hb dX1_behindTilt_0 rfl (lv_at hl 0 rfl) ?_
  refine lv_iload_n hx hb dX1_behindTilt_1 rfl (lv_at hl 1 rfl) ?_
  refine x_ci [0, 1] (va_runV (As := [.int p0]) (rest := []) ⟨hx, hb, hml, hown, hts⟩ (c_X1_letterAt l D cI cL adN adNa fN nN p0 _) (cwV 1 hts (gv_ok (fun _ h => w_in h) wd_183 wd_180 wd_181 wd_182 wd_19) rfl rfl rfl (by decide +kernel) ⟨Nat.le_of_ble_eq_true rfl, Nat.le_of_ble_eq_true rfl⟩) (x_pv hN hK hP hD [0, 1] rfl rfl (ci := 1) (q0 := 0) rfl rfl) rfl rfl hl.1 rfl (lv_room (Nat.le_of_ble_eq_true rfl)) dX1_behindTilt_2 ⟨Nat.zero_le _, Nat.zero_le _⟩) hP hD hS hA rfl (fun r_1 H locs er_1 hP hS => ?_)
  refine lv_istore_n (lv' := [(2, .int r_1), (0, .ref adN), (1, .int p0)]) hx hb dX1_behindTilt_5 rfl hl (by decide) rfl (fun ls hl => ?_)
  refine lv_iload_n hx hb dX1_behindTilt_6 rfl (lv_at hl 0 rfl) ?_
  refine lv_bipush (v := 43) hx hb dX1_behindTilt_7 (by decide) ?_
  refine lv_icmp_eq (tgt := 28) hx hb dX1_behindTilt_9 (by decide) (fun c_2 => ?_) (fun c_2 => ?_)
  · refine lv_aload_n hx hb dX1_behindTilt_28 rfl (lv_at hl 1 rfl) ?_
    refine lv_iload_n hx hb dX1_behindTilt_29 rfl (lv_at hl 2 rfl) ?_
    refine lv_iconst (v := 1) hx hb dX1_behindTilt_30 (by decide) ?_
    refine lv_iadd hx hb dX1_behindTilt_31 ?_
    refine lv_topi (fun x_3 ex_3 => ?_)
    refine x_ci [0, 1] (va_runV (As := [.int x_3]) (rest := []) ⟨hx, hb, hml, hown, hts⟩ (c_X1_letterAt l D cI cL adN adNa fN nN x_3 _) (cwV 1 hts (gv_ok (fun _ h => w_in h) wd_183 wd_180 wd_181 wd_182 wd_19) rfl rfl rfl (by decide +kernel) ⟨Nat.le_of_ble_eq_true rfl, Nat.le_of_ble_eq_true rfl⟩) (x_pv hN hK hP hD [0, 1] rfl rfl (ci := 1) (q0 := 0) rfl rfl) rfl rfl hl.1 rfl (lv_room (Nat.le_of_ble_eq_true rfl)) dX1_behindTilt_32 ⟨Nat.zero_le _, Nat.zero_le _⟩) hP hD hS hA rfl (fun r_4 H locs er_4 hP hS => ?_)
    refine lv_bipush (v := 59) hx hb dX1_behindTilt_35 (by decide) ?_
    refine lv_icmp_ne (tgt := 46) hx hb dX1_behindTilt_37 (by decide) (fun c_5 => ?_) (fun c_5 => ?_)
    · refine lv_bipush (v := (-2)) hx hb dX1_behindTilt_46 (by decide) ?_
      refine lv_iload_n hx hb dX1_behindTilt_48 rfl (lv_at hl 2 rfl) ?_
      refine lv_isub hx hb dX1_behindTilt_49 ?_
      refine lv_topi (fun x_6 ex_6 => ?_)
      have hF1 : F_X1_behindTilt fN nN p0 = x_6 := (eX1_behindTilt_1 fN nN p0 r_1 x_3 r_4 x_6 er_1 ex_3 er_4 ex_6 c_2 c_5)
      exact xi_ret hx hb hr hlocks hP hS rfl (congrArg (fun o : Int32 => o) hF1).symm dX1_behindTilt_50
    · refine lv_iload_n hx hb dX1_behindTilt_40 rfl (lv_at hl 2 rfl) ?_
      refine lv_iconst (v := 2) hx hb dX1_behindTilt_41 (by decide) ?_
      refine lv_iadd hx hb dX1_behindTilt_42 ?_
      refine lv_topi (fun x_7 ex_7 => ?_)
      refine lv_goto (tgt := 50) hx hb dX1_behindTilt_43 (by decide) ?_
      have hF1 : F_X1_behindTilt fN nN p0 = x_7 := (eX1_behindTilt_2 fN nN p0 r_1 x_3 r_4 x_7 er_1 ex_3 er_4 ex_7 c_2 c_5)
      exact xi_ret hx hb hr hlocks hP hS rfl (congrArg (fun o : Int32 => o) hF1).symm dX1_behindTilt_50
  · refine lv_iload_n hx hb dX1_behindTilt_12 rfl (lv_at hl 0 rfl) ?_
    refine lv_bipush (v := 45) hx hb dX1_behindTilt_13 (by decide) ?_
    refine lv_icmp_eq (tgt := 28) hx hb dX1_behindTilt_15 (by decide) (fun c_8 => ?_) (fun c_8 => ?_)
    · refine lv_aload_n hx hb dX1_behindTilt_28 rfl (lv_at hl 1 rfl) ?_
      refine lv_iload_n hx hb dX1_behindTilt_29 rfl (lv_at hl 2 rfl) ?_
      refine lv_iconst (v := 1) hx hb dX1_behindTilt_30 (by decide) ?_
      refine lv_iadd hx hb dX1_behindTilt_31 ?_
      refine lv_topi (fun x_9 ex_9 => ?_)
      refine x_ci [0, 1] (va_runV (As := [.int x_9]) (rest := []) ⟨hx, hb, hml, hown, hts⟩ (c_X1_letterAt l D cI cL adN adNa fN nN x_9 _) (cwV 1 hts (gv_ok (fun _ h => w_in h) wd_183 wd_180 wd_181 wd_182 wd_19) rfl rfl rfl (by decide +kernel) ⟨Nat.le_of_ble_eq_true rfl, Nat.le_of_ble_eq_true rfl⟩) (x_pv hN hK hP hD [0, 1] rfl rfl (ci := 1) (q0 := 0) rfl rfl) rfl rfl hl.1 rfl (lv_room (Nat.le_of_ble_eq_true rfl)) dX1_behindTilt_32 ⟨Nat.zero_le _, Nat.zero_le _⟩) hP hD hS hA rfl (fun r_10 H locs er_10 hP hS => ?_)
      refine lv_bipush (v := 59) hx hb dX1_behindTilt_35 (by decide) ?_
      refine lv_icmp_ne (tgt := 46) hx hb dX1_behindTilt_37 (by decide) (fun c_11 => ?_) (fun c_11 => ?_)
      · refine lv_bipush (v := (-2)) hx hb dX1_behindTilt_46 (by decide) ?_
        refine lv_iload_n hx hb dX1_behindTilt_48 rfl (lv_at hl 2 rfl) ?_
        refine lv_isub hx hb dX1_behindTilt_49 ?_
        refine lv_topi (fun x_12 ex_12 => ?_)
        have hF1 : F_X1_behindTilt fN nN p0 = x_12 := (eX1_behindTilt_3 fN nN p0 r_1 x_9 r_10 x_12 er_1 ex_9 er_10 ex_12 c_2 c_8 c_11)
        exact xi_ret hx hb hr hlocks hP hS rfl (congrArg (fun o : Int32 => o) hF1).symm dX1_behindTilt_50
      · refine lv_iload_n hx hb dX1_behindTilt_40 rfl (lv_at hl 2 rfl) ?_
        refine lv_iconst (v := 2) hx hb dX1_behindTilt_41 (by decide) ?_
        refine lv_iadd hx hb dX1_behindTilt_42 ?_
        refine lv_topi (fun x_13 ex_13 => ?_)
        refine lv_goto (tgt := 50) hx hb dX1_behindTilt_43 (by decide) ?_
        have hF1 : F_X1_behindTilt fN nN p0 = x_13 := (eX1_behindTilt_4 fN nN p0 r_1 x_9 r_10 x_13 er_1 ex_9 er_10 ex_13 c_2 c_8 c_11)
        exact xi_ret hx hb hr hlocks hP hS rfl (congrArg (fun o : Int32 => o) hF1).symm dX1_behindTilt_50
    · refine lv_iload_n hx hb dX1_behindTilt_18 rfl (lv_at hl 0 rfl) ?_
      refine lv_bipush (v := 48) hx hb dX1_behindTilt_19 (by decide) ?_
      refine lv_icmp_eq (tgt := 28) hx hb dX1_behindTilt_21 (by decide) (fun c_14 => ?_) (fun c_14 => ?_)
      · refine lv_aload_n hx hb dX1_behindTilt_28 rfl (lv_at hl 1 rfl) ?_
        refine lv_iload_n hx hb dX1_behindTilt_29 rfl (lv_at hl 2 rfl) ?_
        refine lv_iconst (v := 1) hx hb dX1_behindTilt_30 (by decide) ?_
        refine lv_iadd hx hb dX1_behindTilt_31 ?_
        refine lv_topi (fun x_15 ex_15 => ?_)
        refine x_ci [0, 1] (va_runV (As := [.int x_15]) (rest := []) ⟨hx, hb, hml, hown, hts⟩ (c_X1_letterAt l D cI cL adN adNa fN nN x_15 _) (cwV 1 hts (gv_ok (fun _ h => w_in h) wd_183 wd_180 wd_181 wd_182 wd_19) rfl rfl rfl (by decide +kernel) ⟨Nat.le_of_ble_eq_true rfl, Nat.le_of_ble_eq_true rfl⟩) (x_pv hN hK hP hD [0, 1] rfl rfl (ci := 1) (q0 := 0) rfl rfl) rfl rfl hl.1 rfl (lv_room (Nat.le_of_ble_eq_true rfl)) dX1_behindTilt_32 ⟨Nat.zero_le _, Nat.zero_le _⟩) hP hD hS hA rfl (fun r_16 H locs er_16 hP hS => ?_)
        refine lv_bipush (v := 59) hx hb dX1_behindTilt_35 (by decide) ?_
        refine lv_icmp_ne (tgt := 46) hx hb dX1_behindTilt_37 (by decide) (fun c_17 => ?_) (fun c_17 => ?_)
        · refine lv_bipush (v := (-2)) hx hb dX1_behindTilt_46 (by decide) ?_
          refine lv_iload_n hx hb dX1_behindTilt_48 rfl (lv_at hl 2 rfl) ?_
          refine lv_isub hx hb dX1_behindTilt_49 ?_
          refine lv_topi (fun x_18 ex_18 => ?_)
          have hF1 : F_X1_behindTilt fN nN p0 = x_18 := (eX1_behindTilt_5 fN nN p0 r_1 x_15 r_16 x_18 er_1 ex_15 er_16 ex_18 c_2 c_8 c_14 c_17)
          exact xi_ret hx hb hr hlocks hP hS rfl (congrArg (fun o : Int32 => o) hF1).symm dX1_behindTilt_50
        · refine lv_iload_n hx hb dX1_behindTilt_40 rfl (lv_at hl 2 rfl) ?_
          refine lv_iconst (v := 2) hx hb dX1_behindTilt_41 (by decide) ?_
          refine lv_iadd hx hb dX1_behindTilt_42 ?_
          refine lv_topi (fun x_19 ex_19 => ?_)
          refine lv_goto (tgt := 50) hx hb dX1_behindTilt_43 (by decide) ?_
          have hF1 : F_X1_behindTilt fN nN p0 = x_19 := (eX1_behindTilt_6 fN nN p0 r_1 x_15 r_16 x_19 er_1 ex_15 er_16 ex_19 c_2 c_8 c_14 c_17)
          exact xi_ret hx hb hr hlocks hP hS rfl (congrArg (fun o : Int32 => o) hF1).symm dX1_behindTilt_50
      · refine lv_iconst (v := (-1)) hx hb dX1_behindTilt_24 (by decide) ?_
        refine lv_iload_n hx hb dX1_behindTilt_25 rfl (lv_at hl 2 rfl) ?_
        refine lv_isub hx hb dX1_behindTilt_26 ?_
        refine lv_topi (fun x_20 ex_20 => ?_)
        have hF1 : F_X1_behindTilt fN nN p0 = x_20 := (eX1_behindTilt_7 fN nN p0 r_1 x_20 er_1 ex_20 c_2 c_8 c_14)
        exact xi_ret hx hb hr hlocks hP hS rfl (congrArg (fun o : Int32 => o) hF1).symm dX1_behindTilt_27

noncomputable def F_X1_behindDigits_L3 (fN : Nat → Int32) (nN : Int32) (p0 : Int32) (p1 : Int32) (p2 : Int32) : Nat → Int32 → Int32
  | 0, _ => default
  | n + 1, v4a =>
  if p2 ≤ v4a then
  (let x_2 : Int32 := (p0 + v4a)
  if v4a < p1 then
  (let x_4 : Int32 := ((-1) - x_2)
  x_4)
  else
  (let r_5 : Int32 := (F_X1_letterAt fN nN x_2)
  if r_5 = 59 then
  (let x_8 : Int32 := (x_2 + 1)
  x_8)
  else
  (let x_7 : Int32 := ((-1) - x_2)
  x_7)))
  else
  (let x_9 : Int32 := (p0 + v4a)
  let r_10 : Int32 := (F_X1_letterAt fN nN x_9)
  let r_11 : Int32 := (F_X1_isDigit r_10)
  if r_11 = 0 then
  (let x_13 : Int32 := (p0 + v4a)
  if v4a < p1 then
  (let x_15 : Int32 := ((-1) - x_13)
  x_15)
  else
  (let r_16 : Int32 := (F_X1_letterAt fN nN x_13)
  if r_16 = 59 then
  (let x_19 : Int32 := (x_13 + 1)
  x_19)
  else
  (let x_18 : Int32 := ((-1) - x_13)
  x_18)))
  else
  (let x_20 : Int32 := v4a + 1
  F_X1_behindDigits_L3 fN nN p0 p1 p2 n x_20))
noncomputable def F_X1_behindDigits (fN : Nat → Int32) (nN : Int32) (p0 : Int32) (p1 : Int32) (p2 : Int32) : Int32 :=
  F_X1_behindDigits_L3 fN nN p0 p1 p2 (((p2.toInt - (0 : Int32).toInt).toNat) + 1) 0
set_option maxRecDepth 100000 in
theorem eX1_behindDigits_1 (fN : Nat → Int32) (nN : Int32) (p0 : Int32) (p1 : Int32) (p2 : Int32) (nf : Nat) (v4a : Int32) (x_2 : Int32) (x_4 : Int32) (ex_2 : x_2 = (p0 + v4a)) (ex_4 : x_4 = ((-1) - x_2)) (c_1 : p2 ≤ v4a) (c_3 : v4a < p1) : F_X1_behindDigits_L3 fN nN p0 p1 p2 (nf + 1) v4a = x_4 := by subst ex_2 ex_4; exact (if_pos c_1).trans ((if_pos c_3).trans (rfl))
set_option maxRecDepth 100000 in
theorem eX1_behindDigits_2 (fN : Nat → Int32) (nN : Int32) (p0 : Int32) (p1 : Int32) (p2 : Int32) (nf : Nat) (v4a : Int32) (x_2 : Int32) (r_5 : Int32) (x_7 : Int32) (ex_2 : x_2 = (p0 + v4a)) (er_5 : r_5 = (F_X1_letterAt fN nN x_2)) (ex_7 : x_7 = ((-1) - x_2)) (c_1 : p2 ≤ v4a) (c_3 : ¬ (v4a < p1)) (c_6 : ¬ (r_5 = 59)) : F_X1_behindDigits_L3 fN nN p0 p1 p2 (nf + 1) v4a = x_7 := by subst ex_2 er_5 ex_7; exact (if_pos c_1).trans ((if_neg c_3).trans ((if_neg c_6).trans (rfl)))
set_option maxRecDepth 100000 in
theorem eX1_behindDigits_3 (fN : Nat → Int32) (nN : Int32) (p0 : Int32) (p1 : Int32) (p2 : Int32) (nf : Nat) (v4a : Int32) (x_2 : Int32) (r_5 : Int32) (x_8 : Int32) (ex_2 : x_2 = (p0 + v4a)) (er_5 : r_5 = (F_X1_letterAt fN nN x_2)) (ex_8 : x_8 = (x_2 + 1)) (c_1 : p2 ≤ v4a) (c_3 : ¬ (v4a < p1)) (c_6 : r_5 = 59) : F_X1_behindDigits_L3 fN nN p0 p1 p2 (nf + 1) v4a = x_8 := by subst ex_2 er_5 ex_8; exact (if_pos c_1).trans ((if_neg c_3).trans ((if_pos c_6).trans (rfl)))
set_option maxRecDepth 100000 in
theorem eX1_behindDigits_4 (fN : Nat → Int32) (nN : Int32) (p0 : Int32) (p1 : Int32) (p2 : Int32) (nf : Nat) (v4a : Int32) (x_9 : Int32) (r_10 : Int32) (r_11 : Int32) (x_13 : Int32) (x_15 : Int32) (ex_9 : x_9 = (p0 + v4a)) (er_10 : r_10 = (F_X1_letterAt fN nN x_9)) (er_11 : r_11 = (F_X1_isDigit r_10)) (ex_13 : x_13 = (p0 + v4a)) (ex_15 : x_15 = ((-1) - x_13)) (c_1 : ¬ (p2 ≤ v4a)) (c_12 : r_11 = 0) (c_14 : v4a < p1) : F_X1_behindDigits_L3 fN nN p0 p1 p2 (nf + 1) v4a = x_15 := by subst ex_9 er_10 er_11 ex_13 ex_15; exact (if_neg c_1).trans ((if_pos c_12).trans ((if_pos c_14).trans (rfl)))
set_option maxRecDepth 100000 in
theorem eX1_behindDigits_5 (fN : Nat → Int32) (nN : Int32) (p0 : Int32) (p1 : Int32) (p2 : Int32) (nf : Nat) (v4a : Int32) (x_9 : Int32) (r_10 : Int32) (r_11 : Int32) (x_13 : Int32) (r_16 : Int32) (x_18 : Int32) (ex_9 : x_9 = (p0 + v4a)) (er_10 : r_10 = (F_X1_letterAt fN nN x_9)) (er_11 : r_11 = (F_X1_isDigit r_10)) (ex_13 : x_13 = (p0 + v4a)) (er_16 : r_16 = (F_X1_letterAt fN nN x_13)) (ex_18 : x_18 = ((-1) - x_13)) (c_1 : ¬ (p2 ≤ v4a)) (c_12 : r_11 = 0) (c_14 : ¬ (v4a < p1)) (c_17 : ¬ (r_16 = 59)) : F_X1_behindDigits_L3 fN nN p0 p1 p2 (nf + 1) v4a = x_18 := by subst ex_9 er_10 er_11 ex_13 er_16 ex_18; exact (if_neg c_1).trans ((if_pos c_12).trans ((if_neg c_14).trans ((if_neg c_17).trans (rfl))))
set_option maxRecDepth 100000 in
theorem eX1_behindDigits_6 (fN : Nat → Int32) (nN : Int32) (p0 : Int32) (p1 : Int32) (p2 : Int32) (nf : Nat) (v4a : Int32) (x_9 : Int32) (r_10 : Int32) (r_11 : Int32) (x_13 : Int32) (r_16 : Int32) (x_19 : Int32) (ex_9 : x_9 = (p0 + v4a)) (er_10 : r_10 = (F_X1_letterAt fN nN x_9)) (er_11 : r_11 = (F_X1_isDigit r_10)) (ex_13 : x_13 = (p0 + v4a)) (er_16 : r_16 = (F_X1_letterAt fN nN x_13)) (ex_19 : x_19 = (x_13 + 1)) (c_1 : ¬ (p2 ≤ v4a)) (c_12 : r_11 = 0) (c_14 : ¬ (v4a < p1)) (c_17 : r_16 = 59) : F_X1_behindDigits_L3 fN nN p0 p1 p2 (nf + 1) v4a = x_19 := by subst ex_9 er_10 er_11 ex_13 er_16 ex_19; exact (if_neg c_1).trans ((if_pos c_12).trans ((if_neg c_14).trans ((if_pos c_17).trans (rfl))))
set_option maxRecDepth 100000 in
theorem eX1_behindDigits_7 (fN : Nat → Int32) (nN : Int32) (p0 : Int32) (p1 : Int32) (p2 : Int32) (nf : Nat) (v4a : Int32) (x_9 : Int32) (r_10 : Int32) (r_11 : Int32) (x_20 : Int32) (ex_9 : x_9 = (p0 + v4a)) (er_10 : r_10 = (F_X1_letterAt fN nN x_9)) (er_11 : r_11 = (F_X1_isDigit r_10)) (ex_20 : x_20 = v4a + 1) (c_1 : ¬ (p2 ≤ v4a)) (c_12 : ¬ (r_11 = 0)) : F_X1_behindDigits_L3 fN nN p0 p1 p2 (nf + 1) v4a = F_X1_behindDigits_L3 fN nN p0 p1 p2 nf x_20 := by subst ex_9 er_10 er_11 ex_20; exact (if_neg c_1).trans ((if_neg c_12).trans (rfl))
set_option maxHeartbeats 4000000 in
set_option maxRecDepth 100000 in
theorem c_X1_behindDigits (l : Launch) (D : va_G) (cI cL : ClassId)   (adN : Nat) (adNa : Nat) (fN : Nat → Int32) (nN : Int32) (p0 : Int32) (p1 : Int32) (p2 : Int32)  : Xi l yX1_behindDigits (wm yX1_behindDigits cX1_behindDigits 6 (some .int)) (xR (1) (21)) D (tyA cI cL) [.ref adN, .int p0, .int p1, .int p2] [(adN, .inr (1, [.ref adNa, .int nN])), (adNa, .inl (cI, 96, .inl fN))] [(adN, .inr (1, [.ref adNa, .int nN])), (adNa, .inl (cI, 96, .inl fN))] (F_X1_behindDigits fN nN p0 p1 p2) := by
  intro sz
  refine x_in (cc := cX1_behindDigits) (maxL := 6) (ret := (some .int)) (by decide) rfl (Nat.le_of_ble_eq_true rfl) (fun p e s m below meth c A ls hfix hr hlocks hN hK hP hAe hD hA hS hl => ?_)
  obtain ⟨hx, hb, hml, hown, hts⟩ := hfix
  rw [← hAe]
  clear hAe
  have hown : s.vm.findClass RX1 = some m.cls := hown
  have htL : ∀ w ∈ wsL_law, w.before ([.ref adN, .int p0, .int p1, .int p2] : List Value).toArray s = true := fun w h => hts w (List.mem_cons_of_mem _ h)
  have hl : lv_has ls 6 [(0, .ref adN), (1, .int p0), (2, .int p1), (3, .int p2)] := hl
  refine lv_iconst (v := 0) hx hb dX1_behindDigits_0 (by decide) ?_
  refine lv_istore (lv' := [(4, .int 0), (0, .ref adN), (1, .int p0), (2, .int p1), (3, .int p2)]) hx hb dX1_behindDigits_1 hl (by decide) rfl (fun ls hl => ?_)
  have loop : ∀ (nf : Nat) (v4a : Int32) (H : Heap) (locs : List Loc) (ls : Array Slot), (p2.toInt - v4a.toInt).toNat < nf → F_X1_behindDigits fN nN p0 p1 p2 = F_X1_behindDigits_L3 fN nN p0 p1 p2 nf v4a → va_P D vwCl [(adN, .inr (1, [.ref adNa, .int nN])), (adNa, .inl (cI, 96, .inl fN))] H → va_D A [(adN, .inr (1, [.ref adNa, .int nN])), (adNa, .inl (cI, 96, .inl fN))] → va_S A s.heap H locs → lv_has ls 6 [(4, .int v4a), (0, .ref adN), (1, .int p0), (2, .int p1), (3, .int p2)] → W p l e (xR (1) (21)) s m ([.ref adN, .int p0, .int p1, .int p2] : List Value).toArray below meth c H locs 0 0 (MQ below (va_Qi (fun (r' : Int32) (_ : Unit) => r' = (F_X1_behindDigits fN nN p0 p1 p2)) (xE D [(adN, .inr (1, [.ref adNa, .int nN])), (adNa, .inl (cI, 96, .inl fN))]) A) ([.ref adN, .int p0, .int p1, .int p2] : List Value).toArray s 0 0 A) (F0 m 3 ls []) := by
    intro nf
    induction nf with
    | zero => intro v4a H locs ls hm; exact absurd hm (Nat.not_lt_zero _)
    | succ nf ih =>
      intro v4a H locs ls hm hF hP hD hS hl
      refine lv_iload hx hb dX1_behindDigits_3 (lv_at hl 0 rfl) ?_
      refine lv_iload_n hx hb dX1_behindDigits_5 rfl (lv_at hl 4 rfl) ?_
      refine lv_icmp_ge (tgt := 29) hx hb dX1_behindDigits_6 (by decide) (fun c_1 => ?_) (fun c_1 => ?_)
      · refine lv_iload_n hx hb dX1_behindDigits_29 rfl (lv_at hl 2 rfl) ?_
        refine lv_iload hx hb dX1_behindDigits_30 (lv_at hl 0 rfl) ?_
        refine lv_iadd hx hb dX1_behindDigits_32 ?_
        refine lv_topi (fun x_2 ex_2 => ?_)
        refine lv_istore (lv' := [(5, .int x_2), (4, .int v4a), (0, .ref adN), (1, .int p0), (2, .int p1), (3, .int p2)]) hx hb dX1_behindDigits_33 hl (by decide) rfl (fun ls hl => ?_)
        refine lv_iload hx hb dX1_behindDigits_35 (lv_at hl 1 rfl) ?_
        refine lv_iload_n hx hb dX1_behindDigits_37 rfl (lv_at hl 4 rfl) ?_
        refine lv_icmp_lt (tgt := 59) hx hb dX1_behindDigits_38 (by decide) (fun c_3 => ?_) (fun c_3 => ?_)
        · refine lv_iconst (v := (-1)) hx hb dX1_behindDigits_59 (by decide) ?_
          refine lv_iload hx hb dX1_behindDigits_60 (lv_at hl 0 rfl) ?_
          refine lv_isub hx hb dX1_behindDigits_62 ?_
          refine lv_topi (fun x_4 ex_4 => ?_)
          have hF1 : F_X1_behindDigits fN nN p0 p1 p2 = x_4 := hF.trans (eX1_behindDigits_1 fN nN p0 p1 p2 nf v4a x_2 x_4 ex_2 ex_4 c_1 c_3)
          exact xi_ret hx hb hr hlocks hP hS rfl (congrArg (fun o : Int32 => o) hF1).symm dX1_behindDigits_63
        · refine lv_aload_n hx hb dX1_behindDigits_41 rfl (lv_at hl 2 rfl) ?_
          refine lv_iload hx hb dX1_behindDigits_42 (lv_at hl 0 rfl) ?_
          refine x_ci [0, 1] (va_runV (As := [.int x_2]) (rest := []) ⟨hx, hb, hml, hown, hts⟩ (c_X1_letterAt l D cI cL adN adNa fN nN x_2 _) (cwV 1 hts (gv_ok (fun _ h => w_in h) wd_183 wd_180 wd_181 wd_182 wd_19) rfl rfl rfl (by decide +kernel) ⟨Nat.le_of_ble_eq_true rfl, Nat.le_of_ble_eq_true rfl⟩) (x_pv hN hK hP hD [0, 1] rfl rfl (ci := 1) (q0 := 0) rfl rfl) rfl rfl hl.1 rfl (lv_room (Nat.le_of_ble_eq_true rfl)) dX1_behindDigits_44 ⟨Nat.zero_le _, Nat.zero_le _⟩) hP hD hS hA rfl (fun r_5 H locs er_5 hP hS => ?_)
          refine lv_bipush (v := 59) hx hb dX1_behindDigits_47 (by decide) ?_
          refine lv_icmp_ne (tgt := 59) hx hb dX1_behindDigits_49 (by decide) (fun c_6 => ?_) (fun c_6 => ?_)
          · refine lv_iconst (v := (-1)) hx hb dX1_behindDigits_59 (by decide) ?_
            refine lv_iload hx hb dX1_behindDigits_60 (lv_at hl 0 rfl) ?_
            refine lv_isub hx hb dX1_behindDigits_62 ?_
            refine lv_topi (fun x_7 ex_7 => ?_)
            have hF1 : F_X1_behindDigits fN nN p0 p1 p2 = x_7 := hF.trans (eX1_behindDigits_2 fN nN p0 p1 p2 nf v4a x_2 r_5 x_7 ex_2 er_5 ex_7 c_1 c_3 c_6)
            exact xi_ret hx hb hr hlocks hP hS rfl (congrArg (fun o : Int32 => o) hF1).symm dX1_behindDigits_63
          · refine lv_iload hx hb dX1_behindDigits_52 (lv_at hl 0 rfl) ?_
            refine lv_iconst (v := 1) hx hb dX1_behindDigits_54 (by decide) ?_
            refine lv_iadd hx hb dX1_behindDigits_55 ?_
            refine lv_topi (fun x_8 ex_8 => ?_)
            refine lv_goto (tgt := 63) hx hb dX1_behindDigits_56 (by decide) ?_
            have hF1 : F_X1_behindDigits fN nN p0 p1 p2 = x_8 := hF.trans (eX1_behindDigits_3 fN nN p0 p1 p2 nf v4a x_2 r_5 x_8 ex_2 er_5 ex_8 c_1 c_3 c_6)
            exact xi_ret hx hb hr hlocks hP hS rfl (congrArg (fun o : Int32 => o) hF1).symm dX1_behindDigits_63
      · refine lv_aload_n hx hb dX1_behindDigits_9 rfl (lv_at hl 1 rfl) ?_
        refine lv_iload_n hx hb dX1_behindDigits_10 rfl (lv_at hl 2 rfl) ?_
        refine lv_iload hx hb dX1_behindDigits_11 (lv_at hl 0 rfl) ?_
        refine lv_iadd hx hb dX1_behindDigits_13 ?_
        refine lv_topi (fun x_9 ex_9 => ?_)
        refine x_ci [0, 1] (va_runV (As := [.int x_9]) (rest := []) ⟨hx, hb, hml, hown, hts⟩ (c_X1_letterAt l D cI cL adN adNa fN nN x_9 _) (cwV 1 hts (gv_ok (fun _ h => w_in h) wd_183 wd_180 wd_181 wd_182 wd_19) rfl rfl rfl (by decide +kernel) ⟨Nat.le_of_ble_eq_true rfl, Nat.le_of_ble_eq_true rfl⟩) (x_pv hN hK hP hD [0, 1] rfl rfl (ci := 1) (q0 := 0) rfl rfl) rfl rfl hl.1 rfl (lv_room (Nat.le_of_ble_eq_true rfl)) dX1_behindDigits_14 ⟨Nat.zero_le _, Nat.zero_le _⟩) hP hD hS hA rfl (fun r_10 H locs er_10 hP hS => ?_)
        refine x_ci [] (va_runS (As := [.int r_10]) (rest := []) ⟨hx, hb, hml, hown, hts⟩ (c_X1_isDigit l D cI cL r_10 _) (va_cwS 1 hts (gs_ok (fun _ h => w_in h) wd_190 wd_188 wd_189 wd_19) rfl rfl rfl (by decide +kernel) ⟨Nat.le_of_ble_eq_true rfl, Nat.le_of_ble_eq_true rfl⟩) (x_ps hN hK hP hD [] rfl rfl) rfl rfl hl.1 rfl (lv_room (Nat.le_of_ble_eq_true rfl)) dX1_behindDigits_17 ⟨Nat.zero_le _, Nat.zero_le _⟩) hP hD hS hA rfl (fun r_11 H locs er_11 hP hS => ?_)
        refine lv_if_eq (tgt := 29) hx hb dX1_behindDigits_20 (by decide) (fun c_12 => ?_) (fun c_12 => ?_)
        · refine lv_iload_n hx hb dX1_behindDigits_29 rfl (lv_at hl 2 rfl) ?_
          refine lv_iload hx hb dX1_behindDigits_30 (lv_at hl 0 rfl) ?_
          refine lv_iadd hx hb dX1_behindDigits_32 ?_
          refine lv_topi (fun x_13 ex_13 => ?_)
          refine lv_istore (lv' := [(5, .int x_13), (4, .int v4a), (0, .ref adN), (1, .int p0), (2, .int p1), (3, .int p2)]) hx hb dX1_behindDigits_33 hl (by decide) rfl (fun ls hl => ?_)
          refine lv_iload hx hb dX1_behindDigits_35 (lv_at hl 1 rfl) ?_
          refine lv_iload_n hx hb dX1_behindDigits_37 rfl (lv_at hl 4 rfl) ?_
          refine lv_icmp_lt (tgt := 59) hx hb dX1_behindDigits_38 (by decide) (fun c_14 => ?_) (fun c_14 => ?_)
          · refine lv_iconst (v := (-1)) hx hb dX1_behindDigits_59 (by decide) ?_
            refine lv_iload hx hb dX1_behindDigits_60 (lv_at hl 0 rfl) ?_
            refine lv_isub hx hb dX1_behindDigits_62 ?_
            refine lv_topi (fun x_15 ex_15 => ?_)
            have hF1 : F_X1_behindDigits fN nN p0 p1 p2 = x_15 := hF.trans (eX1_behindDigits_4 fN nN p0 p1 p2 nf v4a x_9 r_10 r_11 x_13 x_15 ex_9 er_10 er_11 ex_13 ex_15 c_1 c_12 c_14)
            exact xi_ret hx hb hr hlocks hP hS rfl (congrArg (fun o : Int32 => o) hF1).symm dX1_behindDigits_63
          · refine lv_aload_n hx hb dX1_behindDigits_41 rfl (lv_at hl 2 rfl) ?_
            refine lv_iload hx hb dX1_behindDigits_42 (lv_at hl 0 rfl) ?_
            refine x_ci [0, 1] (va_runV (As := [.int x_13]) (rest := []) ⟨hx, hb, hml, hown, hts⟩ (c_X1_letterAt l D cI cL adN adNa fN nN x_13 _) (cwV 1 hts (gv_ok (fun _ h => w_in h) wd_183 wd_180 wd_181 wd_182 wd_19) rfl rfl rfl (by decide +kernel) ⟨Nat.le_of_ble_eq_true rfl, Nat.le_of_ble_eq_true rfl⟩) (x_pv hN hK hP hD [0, 1] rfl rfl (ci := 1) (q0 := 0) rfl rfl) rfl rfl hl.1 rfl (lv_room (Nat.le_of_ble_eq_true rfl)) dX1_behindDigits_44 ⟨Nat.zero_le _, Nat.zero_le _⟩) hP hD hS hA rfl (fun r_16 H locs er_16 hP hS => ?_)
            refine lv_bipush (v := 59) hx hb dX1_behindDigits_47 (by decide) ?_
            refine lv_icmp_ne (tgt := 59) hx hb dX1_behindDigits_49 (by decide) (fun c_17 => ?_) (fun c_17 => ?_)
            · refine lv_iconst (v := (-1)) hx hb dX1_behindDigits_59 (by decide) ?_
              refine lv_iload hx hb dX1_behindDigits_60 (lv_at hl 0 rfl) ?_
              refine lv_isub hx hb dX1_behindDigits_62 ?_
              refine lv_topi (fun x_18 ex_18 => ?_)
              have hF1 : F_X1_behindDigits fN nN p0 p1 p2 = x_18 := hF.trans (eX1_behindDigits_5 fN nN p0 p1 p2 nf v4a x_9 r_10 r_11 x_13 r_16 x_18 ex_9 er_10 er_11 ex_13 er_16 ex_18 c_1 c_12 c_14 c_17)
              exact xi_ret hx hb hr hlocks hP hS rfl (congrArg (fun o : Int32 => o) hF1).symm dX1_behindDigits_63
            · refine lv_iload hx hb dX1_behindDigits_52 (lv_at hl 0 rfl) ?_
              refine lv_iconst (v := 1) hx hb dX1_behindDigits_54 (by decide) ?_
              refine lv_iadd hx hb dX1_behindDigits_55 ?_
              refine lv_topi (fun x_19 ex_19 => ?_)
              refine lv_goto (tgt := 63) hx hb dX1_behindDigits_56 (by decide) ?_
              have hF1 : F_X1_behindDigits fN nN p0 p1 p2 = x_19 := hF.trans (eX1_behindDigits_6 fN nN p0 p1 p2 nf v4a x_9 r_10 r_11 x_13 r_16 x_19 ex_9 er_10 er_11 ex_13 er_16 ex_19 c_1 c_12 c_14 c_17)
              exact xi_ret hx hb hr hlocks hP hS rfl (congrArg (fun o : Int32 => o) hF1).symm dX1_behindDigits_63
        · obtain ⟨x_20, ex_20⟩ : ∃ y : Int32, y = v4a + 1 := ⟨_, rfl⟩
          refine lv_iinc (v := x_20) (lv' := [(4, .int x_20), (0, .ref adN), (1, .int p0), (2, .int p1), (3, .int p2)]) hx hb dX1_behindDigits_23 hl (k := 0) rfl (by rw [ex_20]; rfl) (by decide) rfl (fun ls hl => ?_)
          refine lv_goto (tgt := 3) hx hb dX1_behindDigits_26 (by decide) ?_
          exact ih x_20 _ _ _ (by rw [ex_20]; first | exact x_up (by assumption) hm | exact x_up' (by assumption) hm | exact x_up c_1 hm | omega) (hF.trans (eX1_behindDigits_7 fN nN p0 p1 p2 nf v4a x_9 r_10 r_11 x_20 ex_9 er_10 er_11 ex_20 c_1 c_12)) hP hD hS (lv_sub hl [0, 1, 2, 3, 4] rfl)
  exact loop (((p2.toInt - (0 : Int32).toInt).toNat) + 1) 0 _ _ _ (Nat.lt_succ_self _) rfl hP hD hS hl

noncomputable def F_X1_behindStatement (fN : Nat → Int32) (nN : Int32) (p0 : Int32) : Int32 :=
  let r_1 : Int32 := (F_X1_letterAt fN nN p0)
  if r_1 = 104 then
  (let x_3 : Int32 := (p0 + 1)
  let r_4 : Int32 := (F_X1_behindDigits fN nN x_3 4 4)
  r_4)
  else
  (if r_1 = 107 then
  (let x_6 : Int32 := (p0 + 1)
  let r_7 : Int32 := (F_X1_behindDigits fN nN x_6 3 4)
  r_7)
  else
  (if r_1 = 108 then
  (let x_9 : Int32 := (p0 + 1)
  let r_10 : Int32 := (F_X1_behindDigits fN nN x_9 4 4)
  r_10)
  else
  (if r_1 = 116 then
  (let x_12 : Int32 := (p0 + 1)
  let r_13 : Int32 := (F_X1_behindTilt fN nN x_12)
  r_13)
  else
  (let x_14 : Int32 := ((-1) - p0)
  x_14))))
set_option maxRecDepth 100000 in
theorem eX1_behindStatement_1 (fN : Nat → Int32) (nN : Int32) (p0 : Int32) (r_1 : Int32) (x_3 : Int32) (r_4 : Int32) (er_1 : r_1 = (F_X1_letterAt fN nN p0)) (ex_3 : x_3 = (p0 + 1)) (er_4 : r_4 = (F_X1_behindDigits fN nN x_3 4 4)) (c_2 : r_1 = 104) : F_X1_behindStatement fN nN p0 = r_4 := by subst er_1 ex_3 er_4; exact (if_pos c_2).trans (rfl)
set_option maxRecDepth 100000 in
theorem eX1_behindStatement_2 (fN : Nat → Int32) (nN : Int32) (p0 : Int32) (r_1 : Int32) (x_6 : Int32) (r_7 : Int32) (er_1 : r_1 = (F_X1_letterAt fN nN p0)) (ex_6 : x_6 = (p0 + 1)) (er_7 : r_7 = (F_X1_behindDigits fN nN x_6 3 4)) (c_2 : ¬ (r_1 = 104)) (c_5 : r_1 = 107) : F_X1_behindStatement fN nN p0 = r_7 := by subst er_1 ex_6 er_7; exact (if_neg c_2).trans ((if_pos c_5).trans (rfl))
set_option maxRecDepth 100000 in
theorem eX1_behindStatement_3 (fN : Nat → Int32) (nN : Int32) (p0 : Int32) (r_1 : Int32) (x_9 : Int32) (r_10 : Int32) (er_1 : r_1 = (F_X1_letterAt fN nN p0)) (ex_9 : x_9 = (p0 + 1)) (er_10 : r_10 = (F_X1_behindDigits fN nN x_9 4 4)) (c_2 : ¬ (r_1 = 104)) (c_5 : ¬ (r_1 = 107)) (c_8 : r_1 = 108) : F_X1_behindStatement fN nN p0 = r_10 := by subst er_1 ex_9 er_10; exact (if_neg c_2).trans ((if_neg c_5).trans ((if_pos c_8).trans (rfl)))
set_option maxRecDepth 100000 in
theorem eX1_behindStatement_4 (fN : Nat → Int32) (nN : Int32) (p0 : Int32) (r_1 : Int32) (x_12 : Int32) (r_13 : Int32) (er_1 : r_1 = (F_X1_letterAt fN nN p0)) (ex_12 : x_12 = (p0 + 1)) (er_13 : r_13 = (F_X1_behindTilt fN nN x_12)) (c_2 : ¬ (r_1 = 104)) (c_5 : ¬ (r_1 = 107)) (c_8 : ¬ (r_1 = 108)) (c_11 : r_1 = 116) : F_X1_behindStatement fN nN p0 = r_13 := by subst er_1 ex_12 er_13; exact (if_neg c_2).trans ((if_neg c_5).trans ((if_neg c_8).trans ((if_pos c_11).trans (rfl))))
set_option maxRecDepth 100000 in
theorem eX1_behindStatement_5 (fN : Nat → Int32) (nN : Int32) (p0 : Int32) (r_1 : Int32) (x_14 : Int32) (er_1 : r_1 = (F_X1_letterAt fN nN p0)) (ex_14 : x_14 = ((-1) - p0)) (c_2 : ¬ (r_1 = 104)) (c_5 : ¬ (r_1 = 107)) (c_8 : ¬ (r_1 = 108)) (c_11 : ¬ (r_1 = 116)) : F_X1_behindStatement fN nN p0 = x_14 := by subst er_1 ex_14; exact (if_neg c_2).trans ((if_neg c_5).trans ((if_neg c_8).trans ((if_neg c_11).trans (rfl))))
set_option maxHeartbeats 4000000 in
set_option maxRecDepth 100000 in
theorem c_X1_behindStatement (l : Launch) (D : va_G) (cI cL : ClassId)   (adN : Nat) (adNa : Nat) (fN : Nat → Int32) (nN : Int32) (p0 : Int32)  : Xi l yX1_behindStatement (wm yX1_behindStatement cX1_behindStatement 2 (some .int)) (xR (2) (46)) D (tyA cI cL) [.ref adN, .int p0] [(adN, .inr (1, [.ref adNa, .int nN])), (adNa, .inl (cI, 96, .inl fN))] [(adN, .inr (1, [.ref adNa, .int nN])), (adNa, .inl (cI, 96, .inl fN))] (F_X1_behindStatement fN nN p0) := by
  intro sz
  refine x_in (cc := cX1_behindStatement) (maxL := 2) (ret := (some .int)) (by decide) rfl (Nat.le_of_ble_eq_true rfl) (fun p e s m below meth c A ls hfix hr hlocks hN hK hP hAe hD hA hS hl => ?_)
  obtain ⟨hx, hb, hml, hown, hts⟩ := hfix
  rw [← hAe]
  clear hAe
  have hown : s.vm.findClass RX1 = some m.cls := hown
  have htL : ∀ w ∈ wsL_law, w.before ([.ref adN, .int p0] : List Value).toArray s = true := fun w h => hts w (List.mem_cons_of_mem _ h)
  have hl : lv_has ls 2 [(0, .ref adN), (1, .int p0)] := hl
  refine lv_aload_n hx hb dX1_behindStatement_0 rfl (lv_at hl 0 rfl) ?_
  refine lv_iload_n hx hb dX1_behindStatement_1 rfl (lv_at hl 1 rfl) ?_
  refine x_ci [0, 1] (va_runV (As := [.int p0]) (rest := []) ⟨hx, hb, hml, hown, hts⟩ (c_X1_letterAt l D cI cL adN adNa fN nN p0 _) (cwV 1 hts (gv_ok (fun _ h => w_in h) wd_183 wd_180 wd_181 wd_182 wd_19) rfl rfl rfl (by decide +kernel) ⟨Nat.le_of_ble_eq_true rfl, Nat.le_of_ble_eq_true rfl⟩) (x_pv hN hK hP hD [0, 1] rfl rfl (ci := 1) (q0 := 0) rfl rfl) rfl rfl hl.1 rfl (lv_room (Nat.le_of_ble_eq_true rfl)) dX1_behindStatement_2 ⟨Nat.zero_le _, Nat.zero_le _⟩) hP hD hS hA rfl (fun r_1 H locs er_1 hP hS => ?_)
  by_cases c_2 : r_1 = 104
  · refine lv_lookup (off := 43) (tgt := 48) hx hb dX1_behindStatement_5 (by decide) (by rw [c_2]; rfl) (by decide) ?_
    refine lv_aload_n hx hb dX1_behindStatement_48 rfl (lv_at hl 0 rfl) ?_
    refine lv_iload_n hx hb dX1_behindStatement_49 rfl (lv_at hl 1 rfl) ?_
    refine lv_iconst (v := 1) hx hb dX1_behindStatement_50 (by decide) ?_
    refine lv_iadd hx hb dX1_behindStatement_51 ?_
    refine lv_topi (fun x_3 ex_3 => ?_)
    refine lv_iconst (v := 4) hx hb dX1_behindStatement_52 (by decide) ?_
    refine lv_iconst (v := 4) hx hb dX1_behindStatement_53 (by decide) ?_
    refine x_ci [0, 1] (va_runV (As := [.int x_3, .int 4, .int 4]) (rest := []) ⟨hx, hb, hml, hown, hts⟩ (c_X1_behindDigits l D cI cL adN adNa fN nN x_3 4 4 _) (cwV 3 hts (gv_ok (fun _ h => w_in h) wd_187 wd_184 wd_185 wd_186 wd_19) rfl rfl rfl (by decide +kernel) ⟨Nat.le_of_ble_eq_true rfl, Nat.le_of_ble_eq_true rfl⟩) (x_pv hN hK hP hD [0, 1] rfl rfl (ci := 1) (q0 := 0) rfl rfl) rfl rfl hl.1 rfl (lv_room (Nat.le_of_ble_eq_true rfl)) dX1_behindStatement_54 ⟨Nat.zero_le _, Nat.zero_le _⟩) hP hD hS hA rfl (fun r_4 H locs er_4 hP hS => ?_)
    have hF1 : F_X1_behindStatement fN nN p0 = r_4 := (eX1_behindStatement_1 fN nN p0 r_1 x_3 r_4 er_1 ex_3 er_4 c_2)
    exact xi_ret hx hb hr hlocks hP hS rfl (congrArg (fun o : Int32 => o) hF1).symm dX1_behindStatement_57
  · by_cases c_5 : r_1 = 107
    · refine lv_lookup (off := 53) (tgt := 58) hx hb dX1_behindStatement_5 (by decide) (by rw [c_5]; rfl) (by decide) ?_
      refine lv_aload_n hx hb dX1_behindStatement_58 rfl (lv_at hl 0 rfl) ?_
      refine lv_iload_n hx hb dX1_behindStatement_59 rfl (lv_at hl 1 rfl) ?_
      refine lv_iconst (v := 1) hx hb dX1_behindStatement_60 (by decide) ?_
      refine lv_iadd hx hb dX1_behindStatement_61 ?_
      refine lv_topi (fun x_6 ex_6 => ?_)
      refine lv_iconst (v := 3) hx hb dX1_behindStatement_62 (by decide) ?_
      refine lv_iconst (v := 4) hx hb dX1_behindStatement_63 (by decide) ?_
      refine x_ci [0, 1] (va_runV (As := [.int x_6, .int 3, .int 4]) (rest := []) ⟨hx, hb, hml, hown, hts⟩ (c_X1_behindDigits l D cI cL adN adNa fN nN x_6 3 4 _) (cwV 3 hts (gv_ok (fun _ h => w_in h) wd_187 wd_184 wd_185 wd_186 wd_19) rfl rfl rfl (by decide +kernel) ⟨Nat.le_of_ble_eq_true rfl, Nat.le_of_ble_eq_true rfl⟩) (x_pv hN hK hP hD [0, 1] rfl rfl (ci := 1) (q0 := 0) rfl rfl) rfl rfl hl.1 rfl (lv_room (Nat.le_of_ble_eq_true rfl)) dX1_behindStatement_64 ⟨Nat.zero_le _, Nat.zero_le _⟩) hP hD hS hA rfl (fun r_7 H locs er_7 hP hS => ?_)
      have hF1 : F_X1_behindStatement fN nN p0 = r_7 := (eX1_behindStatement_2 fN nN p0 r_1 x_6 r_7 er_1 ex_6 er_7 c_2 c_5)
      exact xi_ret hx hb hr hlocks hP hS rfl (congrArg (fun o : Int32 => o) hF1).symm dX1_behindStatement_67
    · by_cases c_8 : r_1 = 108
      · refine lv_lookup (off := 43) (tgt := 48) hx hb dX1_behindStatement_5 (by decide) (by rw [c_8]; rfl) (by decide) ?_
        refine lv_aload_n hx hb dX1_behindStatement_48 rfl (lv_at hl 0 rfl) ?_
        refine lv_iload_n hx hb dX1_behindStatement_49 rfl (lv_at hl 1 rfl) ?_
        refine lv_iconst (v := 1) hx hb dX1_behindStatement_50 (by decide) ?_
        refine lv_iadd hx hb dX1_behindStatement_51 ?_
        refine lv_topi (fun x_9 ex_9 => ?_)
        refine lv_iconst (v := 4) hx hb dX1_behindStatement_52 (by decide) ?_
        refine lv_iconst (v := 4) hx hb dX1_behindStatement_53 (by decide) ?_
        refine x_ci [0, 1] (va_runV (As := [.int x_9, .int 4, .int 4]) (rest := []) ⟨hx, hb, hml, hown, hts⟩ (c_X1_behindDigits l D cI cL adN adNa fN nN x_9 4 4 _) (cwV 3 hts (gv_ok (fun _ h => w_in h) wd_187 wd_184 wd_185 wd_186 wd_19) rfl rfl rfl (by decide +kernel) ⟨Nat.le_of_ble_eq_true rfl, Nat.le_of_ble_eq_true rfl⟩) (x_pv hN hK hP hD [0, 1] rfl rfl (ci := 1) (q0 := 0) rfl rfl) rfl rfl hl.1 rfl (lv_room (Nat.le_of_ble_eq_true rfl)) dX1_behindStatement_54 ⟨Nat.zero_le _, Nat.zero_le _⟩) hP hD hS hA rfl (fun r_10 H locs er_10 hP hS => ?_)
        have hF1 : F_X1_behindStatement fN nN p0 = r_10 := (eX1_behindStatement_3 fN nN p0 r_1 x_9 r_10 er_1 ex_9 er_10 c_2 c_5 c_8)
        exact xi_ret hx hb hr hlocks hP hS rfl (congrArg (fun o : Int32 => o) hF1).symm dX1_behindStatement_57
      · by_cases c_11 : r_1 = 116
        · refine lv_lookup (off := 63) (tgt := 68) hx hb dX1_behindStatement_5 (by decide) (by rw [c_11]; rfl) (by decide) ?_
          refine lv_aload_n hx hb dX1_behindStatement_68 rfl (lv_at hl 0 rfl) ?_
          refine lv_iload_n hx hb dX1_behindStatement_69 rfl (lv_at hl 1 rfl) ?_
          refine lv_iconst (v := 1) hx hb dX1_behindStatement_70 (by decide) ?_
          refine lv_iadd hx hb dX1_behindStatement_71 ?_
          refine lv_topi (fun x_12 ex_12 => ?_)
          refine x_ci [0, 1] (va_runV (As := [.int x_12]) (rest := []) ⟨hx, hb, hml, hown, hts⟩ (c_X1_behindTilt l D cI cL adN adNa fN nN x_12 _) (cwV 1 hts (gv_ok (fun _ h => w_in h) wd_194 wd_191 wd_192 wd_193 wd_19) rfl rfl rfl (by decide +kernel) ⟨Nat.le_of_ble_eq_true rfl, Nat.le_of_ble_eq_true rfl⟩) (x_pv hN hK hP hD [0, 1] rfl rfl (ci := 1) (q0 := 0) rfl rfl) rfl rfl hl.1 rfl (lv_room (Nat.le_of_ble_eq_true rfl)) dX1_behindStatement_72 ⟨Nat.zero_le _, Nat.zero_le _⟩) hP hD hS hA rfl (fun r_13 H locs er_13 hP hS => ?_)
          have hF1 : F_X1_behindStatement fN nN p0 = r_13 := (eX1_behindStatement_4 fN nN p0 r_1 x_12 r_13 er_1 ex_12 er_13 c_2 c_5 c_8 c_11)
          exact xi_ret hx hb hr hlocks hP hS rfl (congrArg (fun o : Int32 => o) hF1).symm dX1_behindStatement_75
        · refine lv_lookup (off := 71) (tgt := 76) hx hb dX1_behindStatement_5 (by decide) (by simp only [Op.lookupswitch.offset]; rw [if_neg (x_nk (z := 104) c_2 rfl), if_neg (x_nk (z := 107) c_5 rfl), if_neg (x_nk (z := 108) c_8 rfl), if_neg (x_nk (z := 116) c_11 rfl)]) (by decide) ?_
          refine lv_iconst (v := (-1)) hx hb dX1_behindStatement_76 (by decide) ?_
          refine lv_iload_n hx hb dX1_behindStatement_77 rfl (lv_at hl 1 rfl) ?_
          refine lv_isub hx hb dX1_behindStatement_78 ?_
          refine lv_topi (fun x_14 ex_14 => ?_)
          have hF1 : F_X1_behindStatement fN nN p0 = x_14 := (eX1_behindStatement_5 fN nN p0 r_1 x_14 er_1 ex_14 c_2 c_5 c_8 c_11)
          exact xi_ret hx hb hr hlocks hP hS rfl (congrArg (fun o : Int32 => o) hF1).symm dX1_behindStatement_79

noncomputable def F_X1_isInRange (fN : Nat → Int32) (nN : Int32) (p0 : Int32) : Int32 :=
  let x_1 : Int32 := (p0 + 1)
  let r_2 : Int32 := (F_X1_digitAt fN nN x_1)
  let x_3 : Int32 := (p0 + 2)
  let r_4 : Int32 := (F_X1_digitAt fN nN x_3)
  let r_5 : Int32 := (F_X1_letterAt fN nN p0)
  if r_5 = 104 then
  (if 6 ≤ r_2 then
  (0)
  else
  (let x_8 : Int32 := (p0 + 3)
  let r_9 : Int32 := (F_X1_numberAt fN nN x_8)
  if r_9 < 10 then
  (0)
  else
  (1)))
  else
  (if r_5 = 105 then
  (1)
  else
  (if r_5 = 106 then
  (1)
  else
  (if r_5 = 107 then
  (let x_14 : Int32 := (p0 + 3)
  let r_15 : Int32 := (F_X1_numberAt fN nN x_14)
  if 3 ≤ r_2 then
  (0)
  else
  (if r_4 < 1 then
  (0)
  else
  (if 4 < r_4 then
  (0)
  else
  (if r_15 < 1 then
  (0)
  else
  (if 30 < r_15 then
  (0)
  else
  (1))))))
  else
  (if r_5 = 108 then
  (if 4 ≤ r_2 then
  (0)
  else
  (if 6 ≤ r_4 then
  (0)
  else
  (let x_24 : Int32 := (p0 + 4)
  let r_25 : Int32 := (F_X1_digitAt fN nN x_24)
  if r_25 < 1 then
  (0)
  else
  (1))))
  else
  (1)))))
theorem nz_X1_isInRange (fN : Nat → Int32) (nN : Int32) (p0 : Int32) : narrow .boolean (.int (F_X1_isInRange fN nN p0)) = .int (F_X1_isInRange fN nN p0) := by
  unfold F_X1_isInRange
  try dsimp only
  (repeat' split) <;> rfl
set_option maxRecDepth 100000 in
theorem eX1_isInRange_1 (fN : Nat → Int32) (nN : Int32) (p0 : Int32) (x_1 : Int32) (r_2 : Int32) (x_3 : Int32) (r_4 : Int32) (r_5 : Int32) (ex_1 : x_1 = (p0 + 1)) (er_2 : r_2 = (F_X1_digitAt fN nN x_1)) (ex_3 : x_3 = (p0 + 2)) (er_4 : r_4 = (F_X1_digitAt fN nN x_3)) (er_5 : r_5 = (F_X1_letterAt fN nN p0)) (c_6 : r_5 = 104) (c_7 : 6 ≤ r_2) : F_X1_isInRange fN nN p0 = 0 := by subst ex_1 er_2 ex_3 er_4 er_5; exact (if_pos c_6).trans ((if_pos c_7).trans (rfl))
set_option maxRecDepth 100000 in
theorem eX1_isInRange_2 (fN : Nat → Int32) (nN : Int32) (p0 : Int32) (x_1 : Int32) (r_2 : Int32) (x_3 : Int32) (r_4 : Int32) (r_5 : Int32) (x_8 : Int32) (r_9 : Int32) (ex_1 : x_1 = (p0 + 1)) (er_2 : r_2 = (F_X1_digitAt fN nN x_1)) (ex_3 : x_3 = (p0 + 2)) (er_4 : r_4 = (F_X1_digitAt fN nN x_3)) (er_5 : r_5 = (F_X1_letterAt fN nN p0)) (ex_8 : x_8 = (p0 + 3)) (er_9 : r_9 = (F_X1_numberAt fN nN x_8)) (c_6 : r_5 = 104) (c_7 : ¬ (6 ≤ r_2)) (c_10 : r_9 < 10) : F_X1_isInRange fN nN p0 = 0 := by subst ex_1 er_2 ex_3 er_4 er_5 ex_8 er_9; exact (if_pos c_6).trans ((if_neg c_7).trans ((if_pos c_10).trans (rfl)))
set_option maxRecDepth 100000 in
theorem eX1_isInRange_3 (fN : Nat → Int32) (nN : Int32) (p0 : Int32) (x_1 : Int32) (r_2 : Int32) (x_3 : Int32) (r_4 : Int32) (r_5 : Int32) (x_8 : Int32) (r_9 : Int32) (ex_1 : x_1 = (p0 + 1)) (er_2 : r_2 = (F_X1_digitAt fN nN x_1)) (ex_3 : x_3 = (p0 + 2)) (er_4 : r_4 = (F_X1_digitAt fN nN x_3)) (er_5 : r_5 = (F_X1_letterAt fN nN p0)) (ex_8 : x_8 = (p0 + 3)) (er_9 : r_9 = (F_X1_numberAt fN nN x_8)) (c_6 : r_5 = 104) (c_7 : ¬ (6 ≤ r_2)) (c_10 : ¬ (r_9 < 10)) : F_X1_isInRange fN nN p0 = 1 := by subst ex_1 er_2 ex_3 er_4 er_5 ex_8 er_9; exact (if_pos c_6).trans ((if_neg c_7).trans ((if_neg c_10).trans (rfl)))
set_option maxRecDepth 100000 in
theorem eX1_isInRange_4 (fN : Nat → Int32) (nN : Int32) (p0 : Int32) (x_1 : Int32) (r_2 : Int32) (x_3 : Int32) (r_4 : Int32) (r_5 : Int32) (ex_1 : x_1 = (p0 + 1)) (er_2 : r_2 = (F_X1_digitAt fN nN x_1)) (ex_3 : x_3 = (p0 + 2)) (er_4 : r_4 = (F_X1_digitAt fN nN x_3)) (er_5 : r_5 = (F_X1_letterAt fN nN p0)) (c_6 : ¬ (r_5 = 104)) (c_11 : r_5 = 105) : F_X1_isInRange fN nN p0 = 1 := by subst ex_1 er_2 ex_3 er_4 er_5; exact (if_neg c_6).trans ((if_pos c_11).trans (rfl))
set_option maxRecDepth 100000 in
theorem eX1_isInRange_5 (fN : Nat → Int32) (nN : Int32) (p0 : Int32) (x_1 : Int32) (r_2 : Int32) (x_3 : Int32) (r_4 : Int32) (r_5 : Int32) (ex_1 : x_1 = (p0 + 1)) (er_2 : r_2 = (F_X1_digitAt fN nN x_1)) (ex_3 : x_3 = (p0 + 2)) (er_4 : r_4 = (F_X1_digitAt fN nN x_3)) (er_5 : r_5 = (F_X1_letterAt fN nN p0)) (c_6 : ¬ (r_5 = 104)) (c_11 : ¬ (r_5 = 105)) (c_12 : r_5 = 106) : F_X1_isInRange fN nN p0 = 1 := by subst ex_1 er_2 ex_3 er_4 er_5; exact (if_neg c_6).trans ((if_neg c_11).trans ((if_pos c_12).trans (rfl)))
set_option maxRecDepth 100000 in
theorem eX1_isInRange_6 (fN : Nat → Int32) (nN : Int32) (p0 : Int32) (x_1 : Int32) (r_2 : Int32) (x_3 : Int32) (r_4 : Int32) (r_5 : Int32) (x_14 : Int32) (r_15 : Int32) (ex_1 : x_1 = (p0 + 1)) (er_2 : r_2 = (F_X1_digitAt fN nN x_1)) (ex_3 : x_3 = (p0 + 2)) (er_4 : r_4 = (F_X1_digitAt fN nN x_3)) (er_5 : r_5 = (F_X1_letterAt fN nN p0)) (ex_14 : x_14 = (p0 + 3)) (er_15 : r_15 = (F_X1_numberAt fN nN x_14)) (c_6 : ¬ (r_5 = 104)) (c_11 : ¬ (r_5 = 105)) (c_12 : ¬ (r_5 = 106)) (c_13 : r_5 = 107) (c_16 : 3 ≤ r_2) : F_X1_isInRange fN nN p0 = 0 := by subst ex_1 er_2 ex_3 er_4 er_5 ex_14 er_15; exact (if_neg c_6).trans ((if_neg c_11).trans ((if_neg c_12).trans ((if_pos c_13).trans ((if_pos c_16).trans (rfl)))))
set_option maxRecDepth 100000 in
theorem eX1_isInRange_7 (fN : Nat → Int32) (nN : Int32) (p0 : Int32) (x_1 : Int32) (r_2 : Int32) (x_3 : Int32) (r_4 : Int32) (r_5 : Int32) (x_14 : Int32) (r_15 : Int32) (ex_1 : x_1 = (p0 + 1)) (er_2 : r_2 = (F_X1_digitAt fN nN x_1)) (ex_3 : x_3 = (p0 + 2)) (er_4 : r_4 = (F_X1_digitAt fN nN x_3)) (er_5 : r_5 = (F_X1_letterAt fN nN p0)) (ex_14 : x_14 = (p0 + 3)) (er_15 : r_15 = (F_X1_numberAt fN nN x_14)) (c_6 : ¬ (r_5 = 104)) (c_11 : ¬ (r_5 = 105)) (c_12 : ¬ (r_5 = 106)) (c_13 : r_5 = 107) (c_16 : ¬ (3 ≤ r_2)) (c_17 : r_4 < 1) : F_X1_isInRange fN nN p0 = 0 := by subst ex_1 er_2 ex_3 er_4 er_5 ex_14 er_15; exact (if_neg c_6).trans ((if_neg c_11).trans ((if_neg c_12).trans ((if_pos c_13).trans ((if_neg c_16).trans ((if_pos c_17).trans (rfl))))))
set_option maxRecDepth 100000 in
theorem eX1_isInRange_8 (fN : Nat → Int32) (nN : Int32) (p0 : Int32) (x_1 : Int32) (r_2 : Int32) (x_3 : Int32) (r_4 : Int32) (r_5 : Int32) (x_14 : Int32) (r_15 : Int32) (ex_1 : x_1 = (p0 + 1)) (er_2 : r_2 = (F_X1_digitAt fN nN x_1)) (ex_3 : x_3 = (p0 + 2)) (er_4 : r_4 = (F_X1_digitAt fN nN x_3)) (er_5 : r_5 = (F_X1_letterAt fN nN p0)) (ex_14 : x_14 = (p0 + 3)) (er_15 : r_15 = (F_X1_numberAt fN nN x_14)) (c_6 : ¬ (r_5 = 104)) (c_11 : ¬ (r_5 = 105)) (c_12 : ¬ (r_5 = 106)) (c_13 : r_5 = 107) (c_16 : ¬ (3 ≤ r_2)) (c_17 : ¬ (r_4 < 1)) (c_18 : 4 < r_4) : F_X1_isInRange fN nN p0 = 0 := by subst ex_1 er_2 ex_3 er_4 er_5 ex_14 er_15; exact (if_neg c_6).trans ((if_neg c_11).trans ((if_neg c_12).trans ((if_pos c_13).trans ((if_neg c_16).trans ((if_neg c_17).trans ((if_pos c_18).trans (rfl)))))))
set_option maxRecDepth 100000 in
theorem eX1_isInRange_9 (fN : Nat → Int32) (nN : Int32) (p0 : Int32) (x_1 : Int32) (r_2 : Int32) (x_3 : Int32) (r_4 : Int32) (r_5 : Int32) (x_14 : Int32) (r_15 : Int32) (ex_1 : x_1 = (p0 + 1)) (er_2 : r_2 = (F_X1_digitAt fN nN x_1)) (ex_3 : x_3 = (p0 + 2)) (er_4 : r_4 = (F_X1_digitAt fN nN x_3)) (er_5 : r_5 = (F_X1_letterAt fN nN p0)) (ex_14 : x_14 = (p0 + 3)) (er_15 : r_15 = (F_X1_numberAt fN nN x_14)) (c_6 : ¬ (r_5 = 104)) (c_11 : ¬ (r_5 = 105)) (c_12 : ¬ (r_5 = 106)) (c_13 : r_5 = 107) (c_16 : ¬ (3 ≤ r_2)) (c_17 : ¬ (r_4 < 1)) (c_18 : ¬ (4 < r_4)) (c_19 : r_15 < 1) : F_X1_isInRange fN nN p0 = 0 := by subst ex_1 er_2 ex_3 er_4 er_5 ex_14 er_15; exact (if_neg c_6).trans ((if_neg c_11).trans ((if_neg c_12).trans ((if_pos c_13).trans ((if_neg c_16).trans ((if_neg c_17).trans ((if_neg c_18).trans ((if_pos c_19).trans (rfl))))))))
set_option maxRecDepth 100000 in
theorem eX1_isInRange_10 (fN : Nat → Int32) (nN : Int32) (p0 : Int32) (x_1 : Int32) (r_2 : Int32) (x_3 : Int32) (r_4 : Int32) (r_5 : Int32) (x_14 : Int32) (r_15 : Int32) (ex_1 : x_1 = (p0 + 1)) (er_2 : r_2 = (F_X1_digitAt fN nN x_1)) (ex_3 : x_3 = (p0 + 2)) (er_4 : r_4 = (F_X1_digitAt fN nN x_3)) (er_5 : r_5 = (F_X1_letterAt fN nN p0)) (ex_14 : x_14 = (p0 + 3)) (er_15 : r_15 = (F_X1_numberAt fN nN x_14)) (c_6 : ¬ (r_5 = 104)) (c_11 : ¬ (r_5 = 105)) (c_12 : ¬ (r_5 = 106)) (c_13 : r_5 = 107) (c_16 : ¬ (3 ≤ r_2)) (c_17 : ¬ (r_4 < 1)) (c_18 : ¬ (4 < r_4)) (c_19 : ¬ (r_15 < 1)) (c_20 : 30 < r_15) : F_X1_isInRange fN nN p0 = 0 := by subst ex_1 er_2 ex_3 er_4 er_5 ex_14 er_15; exact (if_neg c_6).trans ((if_neg c_11).trans ((if_neg c_12).trans ((if_pos c_13).trans ((if_neg c_16).trans ((if_neg c_17).trans ((if_neg c_18).trans ((if_neg c_19).trans ((if_pos c_20).trans (rfl)))))))))
set_option maxRecDepth 100000 in
theorem eX1_isInRange_11 (fN : Nat → Int32) (nN : Int32) (p0 : Int32) (x_1 : Int32) (r_2 : Int32) (x_3 : Int32) (r_4 : Int32) (r_5 : Int32) (x_14 : Int32) (r_15 : Int32) (ex_1 : x_1 = (p0 + 1)) (er_2 : r_2 = (F_X1_digitAt fN nN x_1)) (ex_3 : x_3 = (p0 + 2)) (er_4 : r_4 = (F_X1_digitAt fN nN x_3)) (er_5 : r_5 = (F_X1_letterAt fN nN p0)) (ex_14 : x_14 = (p0 + 3)) (er_15 : r_15 = (F_X1_numberAt fN nN x_14)) (c_6 : ¬ (r_5 = 104)) (c_11 : ¬ (r_5 = 105)) (c_12 : ¬ (r_5 = 106)) (c_13 : r_5 = 107) (c_16 : ¬ (3 ≤ r_2)) (c_17 : ¬ (r_4 < 1)) (c_18 : ¬ (4 < r_4)) (c_19 : ¬ (r_15 < 1)) (c_20 : ¬ (30 < r_15)) : F_X1_isInRange fN nN p0 = 1 := by subst ex_1 er_2 ex_3 er_4 er_5 ex_14 er_15; exact (if_neg c_6).trans ((if_neg c_11).trans ((if_neg c_12).trans ((if_pos c_13).trans ((if_neg c_16).trans ((if_neg c_17).trans ((if_neg c_18).trans ((if_neg c_19).trans ((if_neg c_20).trans (rfl)))))))))
set_option maxRecDepth 100000 in
theorem eX1_isInRange_12 (fN : Nat → Int32) (nN : Int32) (p0 : Int32) (x_1 : Int32) (r_2 : Int32) (x_3 : Int32) (r_4 : Int32) (r_5 : Int32) (ex_1 : x_1 = (p0 + 1)) (er_2 : r_2 = (F_X1_digitAt fN nN x_1)) (ex_3 : x_3 = (p0 + 2)) (er_4 : r_4 = (F_X1_digitAt fN nN x_3)) (er_5 : r_5 = (F_X1_letterAt fN nN p0)) (c_6 : ¬ (r_5 = 104)) (c_11 : ¬ (r_5 = 105)) (c_12 : ¬ (r_5 = 106)) (c_13 : ¬ (r_5 = 107)) (c_21 : r_5 = 108) (c_22 : 4 ≤ r_2) : F_X1_isInRange fN nN p0 = 0 := by subst ex_1 er_2 ex_3 er_4 er_5; exact (if_neg c_6).trans ((if_neg c_11).trans ((if_neg c_12).trans ((if_neg c_13).trans ((if_pos c_21).trans ((if_pos c_22).trans (rfl))))))
set_option maxRecDepth 100000 in
theorem eX1_isInRange_13 (fN : Nat → Int32) (nN : Int32) (p0 : Int32) (x_1 : Int32) (r_2 : Int32) (x_3 : Int32) (r_4 : Int32) (r_5 : Int32) (ex_1 : x_1 = (p0 + 1)) (er_2 : r_2 = (F_X1_digitAt fN nN x_1)) (ex_3 : x_3 = (p0 + 2)) (er_4 : r_4 = (F_X1_digitAt fN nN x_3)) (er_5 : r_5 = (F_X1_letterAt fN nN p0)) (c_6 : ¬ (r_5 = 104)) (c_11 : ¬ (r_5 = 105)) (c_12 : ¬ (r_5 = 106)) (c_13 : ¬ (r_5 = 107)) (c_21 : r_5 = 108) (c_22 : ¬ (4 ≤ r_2)) (c_23 : 6 ≤ r_4) : F_X1_isInRange fN nN p0 = 0 := by subst ex_1 er_2 ex_3 er_4 er_5; exact (if_neg c_6).trans ((if_neg c_11).trans ((if_neg c_12).trans ((if_neg c_13).trans ((if_pos c_21).trans ((if_neg c_22).trans ((if_pos c_23).trans (rfl)))))))
set_option maxRecDepth 100000 in
theorem eX1_isInRange_14 (fN : Nat → Int32) (nN : Int32) (p0 : Int32) (x_1 : Int32) (r_2 : Int32) (x_3 : Int32) (r_4 : Int32) (r_5 : Int32) (x_24 : Int32) (r_25 : Int32) (ex_1 : x_1 = (p0 + 1)) (er_2 : r_2 = (F_X1_digitAt fN nN x_1)) (ex_3 : x_3 = (p0 + 2)) (er_4 : r_4 = (F_X1_digitAt fN nN x_3)) (er_5 : r_5 = (F_X1_letterAt fN nN p0)) (ex_24 : x_24 = (p0 + 4)) (er_25 : r_25 = (F_X1_digitAt fN nN x_24)) (c_6 : ¬ (r_5 = 104)) (c_11 : ¬ (r_5 = 105)) (c_12 : ¬ (r_5 = 106)) (c_13 : ¬ (r_5 = 107)) (c_21 : r_5 = 108) (c_22 : ¬ (4 ≤ r_2)) (c_23 : ¬ (6 ≤ r_4)) (c_26 : r_25 < 1) : F_X1_isInRange fN nN p0 = 0 := by subst ex_1 er_2 ex_3 er_4 er_5 ex_24 er_25; exact (if_neg c_6).trans ((if_neg c_11).trans ((if_neg c_12).trans ((if_neg c_13).trans ((if_pos c_21).trans ((if_neg c_22).trans ((if_neg c_23).trans ((if_pos c_26).trans (rfl))))))))
set_option maxRecDepth 100000 in
theorem eX1_isInRange_15 (fN : Nat → Int32) (nN : Int32) (p0 : Int32) (x_1 : Int32) (r_2 : Int32) (x_3 : Int32) (r_4 : Int32) (r_5 : Int32) (x_24 : Int32) (r_25 : Int32) (ex_1 : x_1 = (p0 + 1)) (er_2 : r_2 = (F_X1_digitAt fN nN x_1)) (ex_3 : x_3 = (p0 + 2)) (er_4 : r_4 = (F_X1_digitAt fN nN x_3)) (er_5 : r_5 = (F_X1_letterAt fN nN p0)) (ex_24 : x_24 = (p0 + 4)) (er_25 : r_25 = (F_X1_digitAt fN nN x_24)) (c_6 : ¬ (r_5 = 104)) (c_11 : ¬ (r_5 = 105)) (c_12 : ¬ (r_5 = 106)) (c_13 : ¬ (r_5 = 107)) (c_21 : r_5 = 108) (c_22 : ¬ (4 ≤ r_2)) (c_23 : ¬ (6 ≤ r_4)) (c_26 : ¬ (r_25 < 1)) : F_X1_isInRange fN nN p0 = 1 := by subst ex_1 er_2 ex_3 er_4 er_5 ex_24 er_25; exact (if_neg c_6).trans ((if_neg c_11).trans ((if_neg c_12).trans ((if_neg c_13).trans ((if_pos c_21).trans ((if_neg c_22).trans ((if_neg c_23).trans ((if_neg c_26).trans (rfl))))))))
set_option maxRecDepth 100000 in
theorem eX1_isInRange_16 (fN : Nat → Int32) (nN : Int32) (p0 : Int32) (x_1 : Int32) (r_2 : Int32) (x_3 : Int32) (r_4 : Int32) (r_5 : Int32) (ex_1 : x_1 = (p0 + 1)) (er_2 : r_2 = (F_X1_digitAt fN nN x_1)) (ex_3 : x_3 = (p0 + 2)) (er_4 : r_4 = (F_X1_digitAt fN nN x_3)) (er_5 : r_5 = (F_X1_letterAt fN nN p0)) (c_6 : ¬ (r_5 = 104)) (c_11 : ¬ (r_5 = 105)) (c_12 : ¬ (r_5 = 106)) (c_13 : ¬ (r_5 = 107)) (c_21 : ¬ (r_5 = 108)) : F_X1_isInRange fN nN p0 = 1 := by subst ex_1 er_2 ex_3 er_4 er_5; exact (if_neg c_6).trans ((if_neg c_11).trans ((if_neg c_12).trans ((if_neg c_13).trans ((if_neg c_21).trans (rfl)))))
set_option maxHeartbeats 4000000 in
set_option maxRecDepth 100000 in
theorem c_X1_isInRange (l : Launch) (D : va_G) (cI cL : ClassId)   (adN : Nat) (adNa : Nat) (fN : Nat → Int32) (nN : Int32) (p0 : Int32)  : Xi l yX1_isInRange (wm yX1_isInRange cX1_isInRange 5 (some .boolean)) (xR (3) (65)) D (tyA cI cL) [.ref adN, .int p0] [(adN, .inr (1, [.ref adNa, .int nN])), (adNa, .inl (cI, 96, .inl fN))] [(adN, .inr (1, [.ref adNa, .int nN])), (adNa, .inl (cI, 96, .inl fN))] (F_X1_isInRange fN nN p0) := by
  intro sz
  refine x_in (cc := cX1_isInRange) (maxL := 5) (ret := (some .boolean)) (by decide) rfl (Nat.le_of_ble_eq_true rfl) (fun p e s m below meth c A ls hfix hr hlocks hN hK hP hAe hD hA hS hl => ?_)
  obtain ⟨hx, hb, hml, hown, hts⟩ := hfix
  rw [← hAe]
  clear hAe
  have hown : s.vm.findClass RX1 = some m.cls := hown
  have htL : ∀ w ∈ wsL_law, w.before ([.ref adN, .int p0] : List Value).toArray s = true := fun w h => hts w (List.mem_cons_of_mem _ h)
  have hl : lv_has ls 5 [(0, .ref adN), (1, .int p0)] := hl
  refine lv_aload_n hx hb dX1_isInRange_0 rfl (lv_at hl 0 rfl) ?_
  refine lv_iload_n hx hb dX1_isInRange_1 rfl (lv_at hl 1 rfl) ?_
  refine lv_iconst (v := 1) hx hb dX1_isInRange_2 (by decide) ?_
  refine lv_iadd hx hb dX1_isInRange_3 ?_
  refine lv_topi (fun x_1 ex_1 => ?_)
  refine x_ci [0, 1] (va_runV (As := [.int x_1]) (rest := []) ⟨hx, hb, hml, hown, hts⟩ (c_X1_digitAt l D cI cL adN adNa fN nN x_1 _) (cwV 1 hts (gv_ok (fun _ h => w_in h) wd_206 wd_203 wd_204 wd_205 wd_19) rfl rfl rfl (by decide +kernel) ⟨Nat.le_of_ble_eq_true rfl, Nat.le_of_ble_eq_true rfl⟩) (x_pv hN hK hP hD [0, 1] rfl rfl (ci := 1) (q0 := 0) rfl rfl) rfl rfl hl.1 rfl (lv_room (Nat.le_of_ble_eq_true rfl)) dX1_isInRange_4 ⟨Nat.zero_le _, Nat.zero_le _⟩) hP hD hS hA rfl (fun r_2 H locs er_2 hP hS => ?_)
  refine lv_istore_n (lv' := [(2, .int r_2), (0, .ref adN), (1, .int p0)]) hx hb dX1_isInRange_7 rfl hl (by decide) rfl (fun ls hl => ?_)
  refine lv_aload_n hx hb dX1_isInRange_8 rfl (lv_at hl 1 rfl) ?_
  refine lv_iload_n hx hb dX1_isInRange_9 rfl (lv_at hl 2 rfl) ?_
  refine lv_iconst (v := 2) hx hb dX1_isInRange_10 (by decide) ?_
  refine lv_iadd hx hb dX1_isInRange_11 ?_
  refine lv_topi (fun x_3 ex_3 => ?_)
  refine x_ci [0, 1] (va_runV (As := [.int x_3]) (rest := []) ⟨hx, hb, hml, hown, hts⟩ (c_X1_digitAt l D cI cL adN adNa fN nN x_3 _) (cwV 1 hts (gv_ok (fun _ h => w_in h) wd_206 wd_203 wd_204 wd_205 wd_19) rfl rfl rfl (by decide +kernel) ⟨Nat.le_of_ble_eq_true rfl, Nat.le_of_ble_eq_true rfl⟩) (x_pv hN hK hP hD [0, 1] rfl rfl (ci := 1) (q0 := 0) rfl rfl) rfl rfl hl.1 rfl (lv_room (Nat.le_of_ble_eq_true rfl)) dX1_isInRange_12 ⟨Nat.zero_le _, Nat.zero_le _⟩) hP hD hS hA rfl (fun r_4 H locs er_4 hP hS => ?_)
  refine lv_istore_n (lv' := [(3, .int r_4), (2, .int r_2), (0, .ref adN), (1, .int p0)]) hx hb dX1_isInRange_15 rfl hl (by decide) rfl (fun ls hl => ?_)
  refine lv_aload_n hx hb dX1_isInRange_16 rfl (lv_at hl 2 rfl) ?_
  refine lv_iload_n hx hb dX1_isInRange_17 rfl (lv_at hl 3 rfl) ?_
  refine x_ci [0, 1] (va_runV (As := [.int p0]) (rest := []) ⟨hx, hb, hml, hown, hts⟩ (c_X1_letterAt l D cI cL adN adNa fN nN p0 _) (cwV 1 hts (gv_ok (fun _ h => w_in h) wd_183 wd_180 wd_181 wd_182 wd_19) rfl rfl rfl (by decide +kernel) ⟨Nat.le_of_ble_eq_true rfl, Nat.le_of_ble_eq_true rfl⟩) (x_pv hN hK hP hD [0, 1] rfl rfl (ci := 1) (q0 := 0) rfl rfl) rfl rfl hl.1 rfl (lv_room (Nat.le_of_ble_eq_true rfl)) dX1_isInRange_18 ⟨Nat.zero_le _, Nat.zero_le _⟩) hP hD hS hA rfl (fun r_5 H locs er_5 hP hS => ?_)
  by_cases c_6 : r_5 = 104
  · refine lv_tableIn (off := 63) (tgt := 84) hx hb dX1_isInRange_21 (by rw [c_6]; decide) (by rw [c_6]; decide) (by rw [c_6]; rfl) (by decide) ?_
    refine lv_iload_n hx hb dX1_isInRange_84 rfl (lv_at hl 1 rfl) ?_
    refine lv_bipush (v := 6) hx hb dX1_isInRange_85 (by decide) ?_
    refine lv_icmp_ge (tgt := 106) hx hb dX1_isInRange_87 (by decide) (fun c_7 => ?_) (fun c_7 => ?_)
    · refine lv_iconst (v := 0) hx hb dX1_isInRange_106 (by decide) ?_
      have hF1 : F_X1_isInRange fN nN p0 = 0 := (eX1_isInRange_1 fN nN p0 x_1 r_2 x_3 r_4 r_5 ex_1 er_2 ex_3 er_4 er_5 c_6 c_7)
      exact xz_ret hx hb hr hlocks hP hS rfl (congrArg (fun o : Int32 => o) hF1).symm dX1_isInRange_107 rfl
    · refine lv_aload_n hx hb dX1_isInRange_90 rfl (lv_at hl 2 rfl) ?_
      refine lv_iload_n hx hb dX1_isInRange_91 rfl (lv_at hl 3 rfl) ?_
      refine lv_iconst (v := 3) hx hb dX1_isInRange_92 (by decide) ?_
      refine lv_iadd hx hb dX1_isInRange_93 ?_
      refine lv_topi (fun x_8 ex_8 => ?_)
      refine x_ci [0, 1] (va_runV (As := [.int x_8]) (rest := []) ⟨hx, hb, hml, hown, hts⟩ (c_X1_numberAt l D cI cL adN adNa fN nN x_8 _) (cwV 1 hts (gv_ok (fun _ h => w_in h) wd_210 wd_207 wd_208 wd_209 wd_19) rfl rfl rfl (by decide +kernel) ⟨Nat.le_of_ble_eq_true rfl, Nat.le_of_ble_eq_true rfl⟩) (x_pv hN hK hP hD [0, 1] rfl rfl (ci := 1) (q0 := 0) rfl rfl) rfl rfl hl.1 rfl (lv_room (Nat.le_of_ble_eq_true rfl)) dX1_isInRange_94 ⟨Nat.zero_le _, Nat.zero_le _⟩) hP hD hS hA rfl (fun r_9 H locs er_9 hP hS => ?_)
      refine lv_bipush (v := 10) hx hb dX1_isInRange_97 (by decide) ?_
      refine lv_icmp_lt (tgt := 106) hx hb dX1_isInRange_99 (by decide) (fun c_10 => ?_) (fun c_10 => ?_)
      · refine lv_iconst (v := 0) hx hb dX1_isInRange_106 (by decide) ?_
        have hF1 : F_X1_isInRange fN nN p0 = 0 := (eX1_isInRange_2 fN nN p0 x_1 r_2 x_3 r_4 r_5 x_8 r_9 ex_1 er_2 ex_3 er_4 er_5 ex_8 er_9 c_6 c_7 c_10)
        exact xz_ret hx hb hr hlocks hP hS rfl (congrArg (fun o : Int32 => o) hF1).symm dX1_isInRange_107 rfl
      · refine lv_iconst (v := 1) hx hb dX1_isInRange_102 (by decide) ?_
        refine lv_goto (tgt := 107) hx hb dX1_isInRange_103 (by decide) ?_
        have hF1 : F_X1_isInRange fN nN p0 = 1 := (eX1_isInRange_3 fN nN p0 x_1 r_2 x_3 r_4 r_5 x_8 r_9 ex_1 er_2 ex_3 er_4 er_5 ex_8 er_9 c_6 c_7 c_10)
        exact xz_ret hx hb hr hlocks hP hS rfl (congrArg (fun o : Int32 => o) hF1).symm dX1_isInRange_107 rfl
  · by_cases c_11 : r_5 = 105
    · refine lv_tableIn (off := 130) (tgt := 151) hx hb dX1_isInRange_21 (by rw [c_11]; decide) (by rw [c_11]; decide) (by rw [c_11]; rfl) (by decide) ?_
      refine lv_iconst (v := 1) hx hb dX1_isInRange_151 (by decide) ?_
      have hF1 : F_X1_isInRange fN nN p0 = 1 := (eX1_isInRange_4 fN nN p0 x_1 r_2 x_3 r_4 r_5 ex_1 er_2 ex_3 er_4 er_5 c_6 c_11)
      exact xz_ret hx hb hr hlocks hP hS rfl (congrArg (fun o : Int32 => o) hF1).symm dX1_isInRange_152 rfl
    · by_cases c_12 : r_5 = 106
      · refine lv_tableIn (off := 130) (tgt := 151) hx hb dX1_isInRange_21 (by rw [c_12]; decide) (by rw [c_12]; decide) (by rw [c_12]; rfl) (by decide) ?_
        refine lv_iconst (v := 1) hx hb dX1_isInRange_151 (by decide) ?_
        have hF1 : F_X1_isInRange fN nN p0 = 1 := (eX1_isInRange_5 fN nN p0 x_1 r_2 x_3 r_4 r_5 ex_1 er_2 ex_3 er_4 er_5 c_6 c_11 c_12)
        exact xz_ret hx hb hr hlocks hP hS rfl (congrArg (fun o : Int32 => o) hF1).symm dX1_isInRange_152 rfl
      · by_cases c_13 : r_5 = 107
        · refine lv_tableIn (off := 87) (tgt := 108) hx hb dX1_isInRange_21 (by rw [c_13]; decide) (by rw [c_13]; decide) (by rw [c_13]; rfl) (by decide) ?_
          refine lv_aload_n hx hb dX1_isInRange_108 rfl (lv_at hl 2 rfl) ?_
          refine lv_iload_n hx hb dX1_isInRange_109 rfl (lv_at hl 3 rfl) ?_
          refine lv_iconst (v := 3) hx hb dX1_isInRange_110 (by decide) ?_
          refine lv_iadd hx hb dX1_isInRange_111 ?_
          refine lv_topi (fun x_14 ex_14 => ?_)
          refine x_ci [0, 1] (va_runV (As := [.int x_14]) (rest := []) ⟨hx, hb, hml, hown, hts⟩ (c_X1_numberAt l D cI cL adN adNa fN nN x_14 _) (cwV 1 hts (gv_ok (fun _ h => w_in h) wd_210 wd_207 wd_208 wd_209 wd_19) rfl rfl rfl (by decide +kernel) ⟨Nat.le_of_ble_eq_true rfl, Nat.le_of_ble_eq_true rfl⟩) (x_pv hN hK hP hD [0, 1] rfl rfl (ci := 1) (q0 := 0) rfl rfl) rfl rfl hl.1 rfl (lv_room (Nat.le_of_ble_eq_true rfl)) dX1_isInRange_112 ⟨Nat.zero_le _, Nat.zero_le _⟩) hP hD hS hA rfl (fun r_15 H locs er_15 hP hS => ?_)
          refine lv_istore (lv' := [(4, .int r_15), (3, .int r_4), (2, .int r_2), (0, .ref adN), (1, .int p0)]) hx hb dX1_isInRange_115 hl (by decide) rfl (fun ls hl => ?_)
          refine lv_iload_n hx hb dX1_isInRange_117 rfl (lv_at hl 2 rfl) ?_
          refine lv_iconst (v := 3) hx hb dX1_isInRange_118 (by decide) ?_
          refine lv_icmp_ge (tgt := 149) hx hb dX1_isInRange_119 (by decide) (fun c_16 => ?_) (fun c_16 => ?_)
          · refine lv_iconst (v := 0) hx hb dX1_isInRange_149 (by decide) ?_
            have hF1 : F_X1_isInRange fN nN p0 = 0 := (eX1_isInRange_6 fN nN p0 x_1 r_2 x_3 r_4 r_5 x_14 r_15 ex_1 er_2 ex_3 er_4 er_5 ex_14 er_15 c_6 c_11 c_12 c_13 c_16)
            exact xz_ret hx hb hr hlocks hP hS rfl (congrArg (fun o : Int32 => o) hF1).symm dX1_isInRange_150 rfl
          · refine lv_iload_n hx hb dX1_isInRange_122 rfl (lv_at hl 1 rfl) ?_
            refine lv_iconst (v := 1) hx hb dX1_isInRange_123 (by decide) ?_
            refine lv_icmp_lt (tgt := 149) hx hb dX1_isInRange_124 (by decide) (fun c_17 => ?_) (fun c_17 => ?_)
            · refine lv_iconst (v := 0) hx hb dX1_isInRange_149 (by decide) ?_
              have hF1 : F_X1_isInRange fN nN p0 = 0 := (eX1_isInRange_7 fN nN p0 x_1 r_2 x_3 r_4 r_5 x_14 r_15 ex_1 er_2 ex_3 er_4 er_5 ex_14 er_15 c_6 c_11 c_12 c_13 c_16 c_17)
              exact xz_ret hx hb hr hlocks hP hS rfl (congrArg (fun o : Int32 => o) hF1).symm dX1_isInRange_150 rfl
            · refine lv_iload_n hx hb dX1_isInRange_127 rfl (lv_at hl 1 rfl) ?_
              refine lv_iconst (v := 4) hx hb dX1_isInRange_128 (by decide) ?_
              refine lv_icmp_gt (tgt := 149) hx hb dX1_isInRange_129 (by decide) (fun c_18 => ?_) (fun c_18 => ?_)
              · refine lv_iconst (v := 0) hx hb dX1_isInRange_149 (by decide) ?_
                have hF1 : F_X1_isInRange fN nN p0 = 0 := (eX1_isInRange_8 fN nN p0 x_1 r_2 x_3 r_4 r_5 x_14 r_15 ex_1 er_2 ex_3 er_4 er_5 ex_14 er_15 c_6 c_11 c_12 c_13 c_16 c_17 c_18)
                exact xz_ret hx hb hr hlocks hP hS rfl (congrArg (fun o : Int32 => o) hF1).symm dX1_isInRange_150 rfl
              · refine lv_iload hx hb dX1_isInRange_132 (lv_at hl 0 rfl) ?_
                refine lv_iconst (v := 1) hx hb dX1_isInRange_134 (by decide) ?_
                refine lv_icmp_lt (tgt := 149) hx hb dX1_isInRange_135 (by decide) (fun c_19 => ?_) (fun c_19 => ?_)
                · refine lv_iconst (v := 0) hx hb dX1_isInRange_149 (by decide) ?_
                  have hF1 : F_X1_isInRange fN nN p0 = 0 := (eX1_isInRange_9 fN nN p0 x_1 r_2 x_3 r_4 r_5 x_14 r_15 ex_1 er_2 ex_3 er_4 er_5 ex_14 er_15 c_6 c_11 c_12 c_13 c_16 c_17 c_18 c_19)
                  exact xz_ret hx hb hr hlocks hP hS rfl (congrArg (fun o : Int32 => o) hF1).symm dX1_isInRange_150 rfl
                · refine lv_iload hx hb dX1_isInRange_138 (lv_at hl 0 rfl) ?_
                  refine lv_bipush (v := 30) hx hb dX1_isInRange_140 (by decide) ?_
                  refine lv_icmp_gt (tgt := 149) hx hb dX1_isInRange_142 (by decide) (fun c_20 => ?_) (fun c_20 => ?_)
                  · refine lv_iconst (v := 0) hx hb dX1_isInRange_149 (by decide) ?_
                    have hF1 : F_X1_isInRange fN nN p0 = 0 := (eX1_isInRange_10 fN nN p0 x_1 r_2 x_3 r_4 r_5 x_14 r_15 ex_1 er_2 ex_3 er_4 er_5 ex_14 er_15 c_6 c_11 c_12 c_13 c_16 c_17 c_18 c_19 c_20)
                    exact xz_ret hx hb hr hlocks hP hS rfl (congrArg (fun o : Int32 => o) hF1).symm dX1_isInRange_150 rfl
                  · refine lv_iconst (v := 1) hx hb dX1_isInRange_145 (by decide) ?_
                    refine lv_goto (tgt := 150) hx hb dX1_isInRange_146 (by decide) ?_
                    have hF1 : F_X1_isInRange fN nN p0 = 1 := (eX1_isInRange_11 fN nN p0 x_1 r_2 x_3 r_4 r_5 x_14 r_15 ex_1 er_2 ex_3 er_4 er_5 ex_14 er_15 c_6 c_11 c_12 c_13 c_16 c_17 c_18 c_19 c_20)
                    exact xz_ret hx hb hr hlocks hP hS rfl (congrArg (fun o : Int32 => o) hF1).symm dX1_isInRange_150 rfl
        · by_cases c_21 : r_5 = 108
          · refine lv_tableIn (off := 35) (tgt := 56) hx hb dX1_isInRange_21 (by rw [c_21]; decide) (by rw [c_21]; decide) (by rw [c_21]; rfl) (by decide) ?_
            refine lv_iload_n hx hb dX1_isInRange_56 rfl (lv_at hl 1 rfl) ?_
            refine lv_iconst (v := 4) hx hb dX1_isInRange_57 (by decide) ?_
            refine lv_icmp_ge (tgt := 82) hx hb dX1_isInRange_58 (by decide) (fun c_22 => ?_) (fun c_22 => ?_)
            · refine lv_iconst (v := 0) hx hb dX1_isInRange_82 (by decide) ?_
              have hF1 : F_X1_isInRange fN nN p0 = 0 := (eX1_isInRange_12 fN nN p0 x_1 r_2 x_3 r_4 r_5 ex_1 er_2 ex_3 er_4 er_5 c_6 c_11 c_12 c_13 c_21 c_22)
              exact xz_ret hx hb hr hlocks hP hS rfl (congrArg (fun o : Int32 => o) hF1).symm dX1_isInRange_83 rfl
            · refine lv_iload_n hx hb dX1_isInRange_61 rfl (lv_at hl 0 rfl) ?_
              refine lv_bipush (v := 6) hx hb dX1_isInRange_62 (by decide) ?_
              refine lv_icmp_ge (tgt := 82) hx hb dX1_isInRange_64 (by decide) (fun c_23 => ?_) (fun c_23 => ?_)
              · refine lv_iconst (v := 0) hx hb dX1_isInRange_82 (by decide) ?_
                have hF1 : F_X1_isInRange fN nN p0 = 0 := (eX1_isInRange_13 fN nN p0 x_1 r_2 x_3 r_4 r_5 ex_1 er_2 ex_3 er_4 er_5 c_6 c_11 c_12 c_13 c_21 c_22 c_23)
                exact xz_ret hx hb hr hlocks hP hS rfl (congrArg (fun o : Int32 => o) hF1).symm dX1_isInRange_83 rfl
              · refine lv_aload_n hx hb dX1_isInRange_67 rfl (lv_at hl 2 rfl) ?_
                refine lv_iload_n hx hb dX1_isInRange_68 rfl (lv_at hl 3 rfl) ?_
                refine lv_iconst (v := 4) hx hb dX1_isInRange_69 (by decide) ?_
                refine lv_iadd hx hb dX1_isInRange_70 ?_
                refine lv_topi (fun x_24 ex_24 => ?_)
                refine x_ci [0, 1] (va_runV (As := [.int x_24]) (rest := []) ⟨hx, hb, hml, hown, hts⟩ (c_X1_digitAt l D cI cL adN adNa fN nN x_24 _) (cwV 1 hts (gv_ok (fun _ h => w_in h) wd_206 wd_203 wd_204 wd_205 wd_19) rfl rfl rfl (by decide +kernel) ⟨Nat.le_of_ble_eq_true rfl, Nat.le_of_ble_eq_true rfl⟩) (x_pv hN hK hP hD [0, 1] rfl rfl (ci := 1) (q0 := 0) rfl rfl) rfl rfl hl.1 rfl (lv_room (Nat.le_of_ble_eq_true rfl)) dX1_isInRange_71 ⟨Nat.zero_le _, Nat.zero_le _⟩) hP hD hS hA rfl (fun r_25 H locs er_25 hP hS => ?_)
                refine lv_iconst (v := 1) hx hb dX1_isInRange_74 (by decide) ?_
                refine lv_icmp_lt (tgt := 82) hx hb dX1_isInRange_75 (by decide) (fun c_26 => ?_) (fun c_26 => ?_)
                · refine lv_iconst (v := 0) hx hb dX1_isInRange_82 (by decide) ?_
                  have hF1 : F_X1_isInRange fN nN p0 = 0 := (eX1_isInRange_14 fN nN p0 x_1 r_2 x_3 r_4 r_5 x_24 r_25 ex_1 er_2 ex_3 er_4 er_5 ex_24 er_25 c_6 c_11 c_12 c_13 c_21 c_22 c_23 c_26)
                  exact xz_ret hx hb hr hlocks hP hS rfl (congrArg (fun o : Int32 => o) hF1).symm dX1_isInRange_83 rfl
                · refine lv_iconst (v := 1) hx hb dX1_isInRange_78 (by decide) ?_
                  refine lv_goto (tgt := 83) hx hb dX1_isInRange_79 (by decide) ?_
                  have hF1 : F_X1_isInRange fN nN p0 = 1 := (eX1_isInRange_15 fN nN p0 x_1 r_2 x_3 r_4 r_5 x_24 r_25 ex_1 er_2 ex_3 er_4 er_5 ex_24 er_25 c_6 c_11 c_12 c_13 c_21 c_22 c_23 c_26)
                  exact xz_ret hx hb hr hlocks hP hS rfl (congrArg (fun o : Int32 => o) hF1).symm dX1_isInRange_83 rfl
          · refine lv_tableOut (tgt := 151) hx hb dX1_isInRange_21 (by have hn0 := x_nk (z := 104) c_6 rfl; have hn1 := x_nk (z := 105) c_11 rfl; have hn2 := x_nk (z := 106) c_12 rfl; have hn3 := x_nk (z := 107) c_13 rfl; have hn4 := x_nk (z := 108) c_21 rfl; omega) (by decide) ?_
            refine lv_iconst (v := 1) hx hb dX1_isInRange_151 (by decide) ?_
            have hF1 : F_X1_isInRange fN nN p0 = 1 := (eX1_isInRange_16 fN nN p0 x_1 r_2 x_3 r_4 r_5 ex_1 er_2 ex_3 er_4 er_5 c_6 c_11 c_12 c_13 c_21)
            exact xz_ret hx hb hr hlocks hP hS rfl (congrArg (fun o : Int32 => o) hF1).symm dX1_isInRange_152 rfl

noncomputable def F_X1_formFault_L4 (fN : Nat → Int32) (nN : Int32) : Nat → Int32 → Int32 → Int32
  | 0, _, _ => default
  | n + 1, v1a, v2a =>
  if 96 ≤ v2a then
  ((-9))
  else
  (if v2a = 0 then
  (let r_3 : Int32 := (F_X1_behindStatement fN nN v1a)
  if 0 ≤ r_3 then
  (let x_5 : Int32 := v2a + 1
  F_X1_formFault_L4 fN nN n r_3 x_5)
  else
  (let x_6 : Int32 := ((-1) - r_3)
  x_6))
  else
  (if nN ≤ v1a then
  ((-9))
  else
  (let r_8 : Int32 := (F_X1_behindStatement fN nN v1a)
  if 0 ≤ r_8 then
  (let x_10 : Int32 := v2a + 1
  F_X1_formFault_L4 fN nN n r_8 x_10)
  else
  (let x_11 : Int32 := ((-1) - r_8)
  x_11))))
noncomputable def F_X1_formFault (fN : Nat → Int32) (nN : Int32) : Int32 :=
  F_X1_formFault_L4 fN nN ((((96 : Int32).toInt - (0 : Int32).toInt).toNat) + 1) 0 0
set_option maxRecDepth 100000 in
theorem eX1_formFault_1 (fN : Nat → Int32) (nN : Int32) (nf : Nat) (v1a : Int32) (v2a : Int32) (c_1 : 96 ≤ v2a) : F_X1_formFault_L4 fN nN (nf + 1) v1a v2a = (-9) := by exact (if_pos c_1).trans (rfl)
set_option maxRecDepth 100000 in
theorem eX1_formFault_2 (fN : Nat → Int32) (nN : Int32) (nf : Nat) (v1a : Int32) (v2a : Int32) (r_3 : Int32) (x_5 : Int32) (er_3 : r_3 = (F_X1_behindStatement fN nN v1a)) (ex_5 : x_5 = v2a + 1) (c_1 : ¬ (96 ≤ v2a)) (c_2 : v2a = 0) (c_4 : 0 ≤ r_3) : F_X1_formFault_L4 fN nN (nf + 1) v1a v2a = F_X1_formFault_L4 fN nN nf r_3 x_5 := by subst er_3 ex_5; exact (if_neg c_1).trans ((if_pos c_2).trans ((if_pos c_4).trans (rfl)))
set_option maxRecDepth 100000 in
theorem eX1_formFault_3 (fN : Nat → Int32) (nN : Int32) (nf : Nat) (v1a : Int32) (v2a : Int32) (r_3 : Int32) (x_6 : Int32) (er_3 : r_3 = (F_X1_behindStatement fN nN v1a)) (ex_6 : x_6 = ((-1) - r_3)) (c_1 : ¬ (96 ≤ v2a)) (c_2 : v2a = 0) (c_4 : ¬ (0 ≤ r_3)) : F_X1_formFault_L4 fN nN (nf + 1) v1a v2a = x_6 := by subst er_3 ex_6; exact (if_neg c_1).trans ((if_pos c_2).trans ((if_neg c_4).trans (rfl)))
set_option maxRecDepth 100000 in
theorem eX1_formFault_4 (fN : Nat → Int32) (nN : Int32) (nf : Nat) (v1a : Int32) (v2a : Int32) (c_1 : ¬ (96 ≤ v2a)) (c_2 : ¬ (v2a = 0)) (c_7 : nN ≤ v1a) : F_X1_formFault_L4 fN nN (nf + 1) v1a v2a = (-9) := by exact (if_neg c_1).trans ((if_neg c_2).trans ((if_pos c_7).trans (rfl)))
set_option maxRecDepth 100000 in
theorem eX1_formFault_5 (fN : Nat → Int32) (nN : Int32) (nf : Nat) (v1a : Int32) (v2a : Int32) (r_8 : Int32) (x_10 : Int32) (er_8 : r_8 = (F_X1_behindStatement fN nN v1a)) (ex_10 : x_10 = v2a + 1) (c_1 : ¬ (96 ≤ v2a)) (c_2 : ¬ (v2a = 0)) (c_7 : ¬ (nN ≤ v1a)) (c_9 : 0 ≤ r_8) : F_X1_formFault_L4 fN nN (nf + 1) v1a v2a = F_X1_formFault_L4 fN nN nf r_8 x_10 := by subst er_8 ex_10; exact (if_neg c_1).trans ((if_neg c_2).trans ((if_neg c_7).trans ((if_pos c_9).trans (rfl))))
set_option maxRecDepth 100000 in
theorem eX1_formFault_6 (fN : Nat → Int32) (nN : Int32) (nf : Nat) (v1a : Int32) (v2a : Int32) (r_8 : Int32) (x_11 : Int32) (er_8 : r_8 = (F_X1_behindStatement fN nN v1a)) (ex_11 : x_11 = ((-1) - r_8)) (c_1 : ¬ (96 ≤ v2a)) (c_2 : ¬ (v2a = 0)) (c_7 : ¬ (nN ≤ v1a)) (c_9 : ¬ (0 ≤ r_8)) : F_X1_formFault_L4 fN nN (nf + 1) v1a v2a = x_11 := by subst er_8 ex_11; exact (if_neg c_1).trans ((if_neg c_2).trans ((if_neg c_7).trans ((if_neg c_9).trans (rfl))))
set_option maxHeartbeats 4000000 in
set_option maxRecDepth 100000 in
theorem c_X1_formFault (l : Launch) (D : va_G) (cI cL : ClassId)   (adN : Nat) (adNa : Nat) (fN : Nat → Int32) (nN : Int32)  : Xi l yX1_formFault (wm yX1_formFault cX1_formFault 4 (some .int)) (xR (3) (67)) D (tyA cI cL) [.ref adN] [(adN, .inr (1, [.ref adNa, .int nN])), (adNa, .inl (cI, 96, .inl fN))] [(adN, .inr (1, [.ref adNa, .int nN])), (adNa, .inl (cI, 96, .inl fN))] (F_X1_formFault fN nN) := by
  intro sz
  refine x_in (cc := cX1_formFault) (maxL := 4) (ret := (some .int)) (by decide) rfl (Nat.le_of_ble_eq_true rfl) (fun p e s m below meth c A ls hfix hr hlocks hN hK hP hAe hD hA hS hl => ?_)
  obtain ⟨hx, hb, hml, hown, hts⟩ := hfix
  rw [← hAe]
  clear hAe
  have hown : s.vm.findClass RX1 = some m.cls := hown
  have htL : ∀ w ∈ wsL_law, w.before ([.ref adN] : List Value).toArray s = true := fun w h => hts w (List.mem_cons_of_mem _ h)
  have hl : lv_has ls 4 [(0, .ref adN)] := hl
  refine lv_iconst (v := 0) hx hb dX1_formFault_0 (by decide) ?_
  refine lv_istore_n (lv' := [(1, .int 0), (0, .ref adN)]) hx hb dX1_formFault_1 rfl hl (by decide) rfl (fun ls hl => ?_)
  refine lv_iconst (v := 0) hx hb dX1_formFault_2 (by decide) ?_
  refine lv_istore_n (lv' := [(2, .int 0), (1, .int 0), (0, .ref adN)]) hx hb dX1_formFault_3 rfl hl (by decide) rfl (fun ls hl => ?_)
  have loop : ∀ (nf : Nat) (v1a : Int32) (v2a : Int32) (H : Heap) (locs : List Loc) (ls : Array Slot), ((96 : Int32).toInt - v2a.toInt).toNat < nf → F_X1_formFault fN nN = F_X1_formFault_L4 fN nN nf v1a v2a → va_P D vwCl [(adN, .inr (1, [.ref adNa, .int nN])), (adNa, .inl (cI, 96, .inl fN))] H → va_D A [(adN, .inr (1, [.ref adNa, .int nN])), (adNa, .inl (cI, 96, .inl fN))] → va_S A s.heap H locs → lv_has ls 4 [(2, .int v2a), (1, .int v1a), (0, .ref adN)] → W p l e (xR (3) (67)) s m ([.ref adN] : List Value).toArray below meth c H locs 0 0 (MQ below (va_Qi (fun (r' : Int32) (_ : Unit) => r' = (F_X1_formFault fN nN)) (xE D [(adN, .inr (1, [.ref adNa, .int nN])), (adNa, .inl (cI, 96, .inl fN))]) A) ([.ref adN] : List Value).toArray s 0 0 A) (F0 m 4 ls []) := by
    intro nf
    induction nf with
    | zero => intro v1a v2a H locs ls hm; exact absurd hm (Nat.not_lt_zero _)
    | succ nf ih =>
      intro v1a v2a H locs ls hm hF hP hD hS hl
      refine lv_iload_n hx hb dX1_formFault_4 rfl (lv_at hl 0 rfl) ?_
      refine lv_bipush (v := 96) hx hb dX1_formFault_5 (by decide) ?_
      refine lv_icmp_ge (tgt := 44) hx hb dX1_formFault_7 (by decide) (fun c_1 => ?_) (fun c_1 => ?_)
      · refine lv_bipush (v := (-9)) hx hb dX1_formFault_44 (by decide) ?_
        have hF1 : F_X1_formFault fN nN = (-9) := hF.trans (eX1_formFault_1 fN nN nf v1a v2a c_1)
        exact xi_ret hx hb hr hlocks hP hS rfl (congrArg (fun o : Int32 => o) hF1).symm dX1_formFault_46
      · refine lv_iload_n hx hb dX1_formFault_10 rfl (lv_at hl 0 rfl) ?_
        refine lv_if_eq (tgt := 22) hx hb dX1_formFault_11 (by decide) (fun c_2 => ?_) (fun c_2 => ?_)
        · refine lv_aload_n hx hb dX1_formFault_22 rfl (lv_at hl 2 rfl) ?_
          refine lv_iload_n hx hb dX1_formFault_23 rfl (lv_at hl 1 rfl) ?_
          refine x_ci [0, 1] (va_runV (As := [.int v1a]) (rest := []) ⟨hx, hb, hml, hown, hts⟩ (c_X1_behindStatement l D cI cL adN adNa fN nN v1a _) (cwV 1 hts (gv_ok (fun _ h => w_in h) wd_179 wd_176 wd_177 wd_178 wd_19) rfl rfl rfl (by decide +kernel) ⟨Nat.le_of_ble_eq_true rfl, Nat.le_of_ble_eq_true rfl⟩) (x_pv hN hK hP hD [0, 1] rfl rfl (ci := 1) (q0 := 0) rfl rfl) rfl rfl hl.1 rfl (lv_room (Nat.le_of_ble_eq_true rfl)) dX1_formFault_24 ⟨Nat.zero_le _, Nat.zero_le _⟩) hP hD hS hA rfl (fun r_3 H locs er_3 hP hS => ?_)
          refine lv_istore_n (lv' := [(3, .int r_3), (2, .int v2a), (1, .int v1a), (0, .ref adN)]) hx hb dX1_formFault_27 rfl hl (by decide) rfl (fun ls hl => ?_)
          refine lv_iload_n hx hb dX1_formFault_28 rfl (lv_at hl 0 rfl) ?_
          refine lv_if_ge (tgt := 36) hx hb dX1_formFault_29 (by decide) (fun c_4 => ?_) (fun c_4 => ?_)
          · refine lv_iload_n hx hb dX1_formFault_36 rfl (lv_at hl 0 rfl) ?_
            refine lv_istore_n (lv' := [(1, .int r_3), (3, .int r_3), (2, .int v2a), (0, .ref adN)]) hx hb dX1_formFault_37 rfl hl (by decide) rfl (fun ls hl => ?_)
            obtain ⟨x_5, ex_5⟩ : ∃ y : Int32, y = v2a + 1 := ⟨_, rfl⟩
            refine lv_iinc (v := x_5) (lv' := [(2, .int x_5), (1, .int r_3), (3, .int r_3), (0, .ref adN)]) hx hb dX1_formFault_38 hl (k := 2) rfl (by rw [ex_5]; rfl) (by decide) rfl (fun ls hl => ?_)
            refine lv_goto (tgt := 4) hx hb dX1_formFault_41 (by decide) ?_
            exact ih r_3 x_5 _ _ _ (by rw [ex_5]; first | exact x_up (by assumption) hm | exact x_up' (by assumption) hm | exact x_up c_1 hm | omega) (hF.trans (eX1_formFault_2 fN nN nf v1a v2a r_3 x_5 er_3 ex_5 c_1 c_2 c_4)) hP hD hS (lv_sub hl [0, 1, 3] rfl)
          · refine lv_iconst (v := (-1)) hx hb dX1_formFault_32 (by decide) ?_
            refine lv_iload_n hx hb dX1_formFault_33 rfl (lv_at hl 0 rfl) ?_
            refine lv_isub hx hb dX1_formFault_34 ?_
            refine lv_topi (fun x_6 ex_6 => ?_)
            have hF1 : F_X1_formFault fN nN = x_6 := hF.trans (eX1_formFault_3 fN nN nf v1a v2a r_3 x_6 er_3 ex_6 c_1 c_2 c_4)
            exact xi_ret hx hb hr hlocks hP hS rfl (congrArg (fun o : Int32 => o) hF1).symm dX1_formFault_35
        · refine lv_iload_n hx hb dX1_formFault_14 rfl (lv_at hl 1 rfl) ?_
          refine lv_aload_n hx hb dX1_formFault_15 rfl (lv_at hl 2 rfl) ?_
          refine va_get (D := D) (ci := 1) (v := .int nN) (C := RX1) (T := TX1) (N := 2) hx hb hts (fun _ h => w_in (inlX1 _ h)) hown hK hP 0 rfl rfl 1 (by decide) (htL _ wd_82) (fun _ h9 => h9) rfl dX1_formFault_16 ?_
          refine lv_icmp_ge (tgt := 44) hx hb dX1_formFault_19 (by decide) (fun c_7 => ?_) (fun c_7 => ?_)
          · refine lv_bipush (v := (-9)) hx hb dX1_formFault_44 (by decide) ?_
            have hF1 : F_X1_formFault fN nN = (-9) := hF.trans (eX1_formFault_4 fN nN nf v1a v2a c_1 c_2 c_7)
            exact xi_ret hx hb hr hlocks hP hS rfl (congrArg (fun o : Int32 => o) hF1).symm dX1_formFault_46
          · refine lv_aload_n hx hb dX1_formFault_22 rfl (lv_at hl 2 rfl) ?_
            refine lv_iload_n hx hb dX1_formFault_23 rfl (lv_at hl 1 rfl) ?_
            refine x_ci [0, 1] (va_runV (As := [.int v1a]) (rest := []) ⟨hx, hb, hml, hown, hts⟩ (c_X1_behindStatement l D cI cL adN adNa fN nN v1a _) (cwV 1 hts (gv_ok (fun _ h => w_in h) wd_179 wd_176 wd_177 wd_178 wd_19) rfl rfl rfl (by decide +kernel) ⟨Nat.le_of_ble_eq_true rfl, Nat.le_of_ble_eq_true rfl⟩) (x_pv hN hK hP hD [0, 1] rfl rfl (ci := 1) (q0 := 0) rfl rfl) rfl rfl hl.1 rfl (lv_room (Nat.le_of_ble_eq_true rfl)) dX1_formFault_24 ⟨Nat.zero_le _, Nat.zero_le _⟩) hP hD hS hA rfl (fun r_8 H locs er_8 hP hS => ?_)
            refine lv_istore_n (lv' := [(3, .int r_8), (2, .int v2a), (1, .int v1a), (0, .ref adN)]) hx hb dX1_formFault_27 rfl hl (by decide) rfl (fun ls hl => ?_)
            refine lv_iload_n hx hb dX1_formFault_28 rfl (lv_at hl 0 rfl) ?_
            refine lv_if_ge (tgt := 36) hx hb dX1_formFault_29 (by decide) (fun c_9 => ?_) (fun c_9 => ?_)
            · refine lv_iload_n hx hb dX1_formFault_36 rfl (lv_at hl 0 rfl) ?_
              refine lv_istore_n (lv' := [(1, .int r_8), (3, .int r_8), (2, .int v2a), (0, .ref adN)]) hx hb dX1_formFault_37 rfl hl (by decide) rfl (fun ls hl => ?_)
              obtain ⟨x_10, ex_10⟩ : ∃ y : Int32, y = v2a + 1 := ⟨_, rfl⟩
              refine lv_iinc (v := x_10) (lv' := [(2, .int x_10), (1, .int r_8), (3, .int r_8), (0, .ref adN)]) hx hb dX1_formFault_38 hl (k := 2) rfl (by rw [ex_10]; rfl) (by decide) rfl (fun ls hl => ?_)
              refine lv_goto (tgt := 4) hx hb dX1_formFault_41 (by decide) ?_
              exact ih r_8 x_10 _ _ _ (by rw [ex_10]; first | exact x_up (by assumption) hm | exact x_up' (by assumption) hm | exact x_up c_1 hm | exact x_up c_7 hm | omega) (hF.trans (eX1_formFault_5 fN nN nf v1a v2a r_8 x_10 er_8 ex_10 c_1 c_2 c_7 c_9)) hP hD hS (lv_sub hl [0, 1, 3] rfl)
            · refine lv_iconst (v := (-1)) hx hb dX1_formFault_32 (by decide) ?_
              refine lv_iload_n hx hb dX1_formFault_33 rfl (lv_at hl 0 rfl) ?_
              refine lv_isub hx hb dX1_formFault_34 ?_
              refine lv_topi (fun x_11 ex_11 => ?_)
              have hF1 : F_X1_formFault fN nN = x_11 := hF.trans (eX1_formFault_6 fN nN nf v1a v2a r_8 x_11 er_8 ex_11 c_1 c_2 c_7 c_9)
              exact xi_ret hx hb hr hlocks hP hS rfl (congrArg (fun o : Int32 => o) hF1).symm dX1_formFault_35
  exact loop ((((96 : Int32).toInt - (0 : Int32).toInt).toNat) + 1) 0 0 _ _ _ (Nat.lt_succ_self _) rfl hP hD hS hl

noncomputable def F_X1_senseFault_L11 (fN : Nat → Int32) (nN : Int32) (p0 : Int32) (p1 : Int32) : Nat → Int32 → Int32 → Int32 → Int32 → Int32
  | 0, _, _, _, _ => default
  | n + 1, v3a, v4a, v5a, v6a =>
  if 96 ≤ v6a then
  ((-9))
  else
  (if v5a < 0 then
  ((-9))
  else
  (if nN ≤ v5a then
  ((-9))
  else
  (let r_4 : Int32 := (F_X1_letterAt fN nN v5a)
  if r_4 = 108 then
  (let x_22 : Int32 := (v3a + 1)
  if r_4 = 107 then
  (let x_31 : Int32 := (v4a + 1)
  if 8 < x_22 then
  (v5a)
  else
  (if 4 < x_31 then
  (v5a)
  else
  (let r_34 : Int32 := (F_X1_isInRange fN nN v5a)
  if r_34 = 0 then
  (v5a)
  else
  (let r_36 : Int32 := (F_X1_behindStatement fN nN v5a)
  let x_37 : Int32 := v6a + 1
  F_X1_senseFault_L11 fN nN p0 p1 n x_22 x_31 r_36 x_37))))
  else
  (let x_24 : Int32 := (v4a + 0)
  if 8 < x_22 then
  (v5a)
  else
  (if 4 < x_24 then
  (v5a)
  else
  (let r_27 : Int32 := (F_X1_isInRange fN nN v5a)
  if r_27 = 0 then
  (v5a)
  else
  (let r_29 : Int32 := (F_X1_behindStatement fN nN v5a)
  let x_30 : Int32 := v6a + 1
  F_X1_senseFault_L11 fN nN p0 p1 n x_22 x_24 r_29 x_30)))))
  else
  (let x_6 : Int32 := (v3a + 0)
  if r_4 = 107 then
  (let x_15 : Int32 := (v4a + 1)
  if 8 < x_6 then
  (v5a)
  else
  (if 4 < x_15 then
  (v5a)
  else
  (let r_18 : Int32 := (F_X1_isInRange fN nN v5a)
  if r_18 = 0 then
  (v5a)
  else
  (let r_20 : Int32 := (F_X1_behindStatement fN nN v5a)
  let x_21 : Int32 := v6a + 1
  F_X1_senseFault_L11 fN nN p0 p1 n x_6 x_15 r_20 x_21))))
  else
  (let x_8 : Int32 := (v4a + 0)
  if 8 < x_6 then
  (v5a)
  else
  (if 4 < x_8 then
  (v5a)
  else
  (let r_11 : Int32 := (F_X1_isInRange fN nN v5a)
  if r_11 = 0 then
  (v5a)
  else
  (let r_13 : Int32 := (F_X1_behindStatement fN nN v5a)
  let x_14 : Int32 := v6a + 1
  F_X1_senseFault_L11 fN nN p0 p1 n x_6 x_8 r_13 x_14))))))))
noncomputable def F_X1_senseFault (fN : Nat → Int32) (nN : Int32) (p0 : Int32) (p1 : Int32) : Int32 :=
  F_X1_senseFault_L11 fN nN p0 p1 ((((96 : Int32).toInt - (0 : Int32).toInt).toNat) + 1) p0 p1 0 0
set_option maxRecDepth 100000 in
theorem eX1_senseFault_1 (fN : Nat → Int32) (nN : Int32) (p0 : Int32) (p1 : Int32) (nf : Nat) (v3a : Int32) (v4a : Int32) (v5a : Int32) (v6a : Int32) (c_1 : 96 ≤ v6a) : F_X1_senseFault_L11 fN nN p0 p1 (nf + 1) v3a v4a v5a v6a = (-9) := by exact (if_pos c_1).trans (rfl)
set_option maxRecDepth 100000 in
theorem eX1_senseFault_2 (fN : Nat → Int32) (nN : Int32) (p0 : Int32) (p1 : Int32) (nf : Nat) (v3a : Int32) (v4a : Int32) (v5a : Int32) (v6a : Int32) (c_1 : ¬ (96 ≤ v6a)) (c_2 : v5a < 0) : F_X1_senseFault_L11 fN nN p0 p1 (nf + 1) v3a v4a v5a v6a = (-9) := by exact (if_neg c_1).trans ((if_pos c_2).trans (rfl))
set_option maxRecDepth 100000 in
theorem eX1_senseFault_3 (fN : Nat → Int32) (nN : Int32) (p0 : Int32) (p1 : Int32) (nf : Nat) (v3a : Int32) (v4a : Int32) (v5a : Int32) (v6a : Int32) (c_1 : ¬ (96 ≤ v6a)) (c_2 : ¬ (v5a < 0)) (c_3 : nN ≤ v5a) : F_X1_senseFault_L11 fN nN p0 p1 (nf + 1) v3a v4a v5a v6a = (-9) := by exact (if_neg c_1).trans ((if_neg c_2).trans ((if_pos c_3).trans (rfl)))
set_option maxRecDepth 100000 in
theorem eX1_senseFault_4 (fN : Nat → Int32) (nN : Int32) (p0 : Int32) (p1 : Int32) (nf : Nat) (v3a : Int32) (v4a : Int32) (v5a : Int32) (v6a : Int32) (r_4 : Int32) (x_6 : Int32) (x_8 : Int32) (er_4 : r_4 = (F_X1_letterAt fN nN v5a)) (ex_6 : x_6 = (v3a + 0)) (ex_8 : x_8 = (v4a + 0)) (c_1 : ¬ (96 ≤ v6a)) (c_2 : ¬ (v5a < 0)) (c_3 : ¬ (nN ≤ v5a)) (c_5 : ¬ (r_4 = 108)) (c_7 : ¬ (r_4 = 107)) (c_9 : 8 < x_6) : F_X1_senseFault_L11 fN nN p0 p1 (nf + 1) v3a v4a v5a v6a = v5a := by subst er_4 ex_6 ex_8; exact (if_neg c_1).trans ((if_neg c_2).trans ((if_neg c_3).trans ((if_neg c_5).trans ((if_neg c_7).trans ((if_pos c_9).trans (rfl))))))
set_option maxRecDepth 100000 in
theorem eX1_senseFault_5 (fN : Nat → Int32) (nN : Int32) (p0 : Int32) (p1 : Int32) (nf : Nat) (v3a : Int32) (v4a : Int32) (v5a : Int32) (v6a : Int32) (r_4 : Int32) (x_6 : Int32) (x_8 : Int32) (er_4 : r_4 = (F_X1_letterAt fN nN v5a)) (ex_6 : x_6 = (v3a + 0)) (ex_8 : x_8 = (v4a + 0)) (c_1 : ¬ (96 ≤ v6a)) (c_2 : ¬ (v5a < 0)) (c_3 : ¬ (nN ≤ v5a)) (c_5 : ¬ (r_4 = 108)) (c_7 : ¬ (r_4 = 107)) (c_9 : ¬ (8 < x_6)) (c_10 : 4 < x_8) : F_X1_senseFault_L11 fN nN p0 p1 (nf + 1) v3a v4a v5a v6a = v5a := by subst er_4 ex_6 ex_8; exact (if_neg c_1).trans ((if_neg c_2).trans ((if_neg c_3).trans ((if_neg c_5).trans ((if_neg c_7).trans ((if_neg c_9).trans ((if_pos c_10).trans (rfl)))))))
set_option maxRecDepth 100000 in
theorem eX1_senseFault_6 (fN : Nat → Int32) (nN : Int32) (p0 : Int32) (p1 : Int32) (nf : Nat) (v3a : Int32) (v4a : Int32) (v5a : Int32) (v6a : Int32) (r_4 : Int32) (x_6 : Int32) (x_8 : Int32) (r_11 : Int32) (r_13 : Int32) (x_14 : Int32) (er_4 : r_4 = (F_X1_letterAt fN nN v5a)) (ex_6 : x_6 = (v3a + 0)) (ex_8 : x_8 = (v4a + 0)) (er_11 : r_11 = (F_X1_isInRange fN nN v5a)) (er_13 : r_13 = (F_X1_behindStatement fN nN v5a)) (ex_14 : x_14 = v6a + 1) (c_1 : ¬ (96 ≤ v6a)) (c_2 : ¬ (v5a < 0)) (c_3 : ¬ (nN ≤ v5a)) (c_5 : ¬ (r_4 = 108)) (c_7 : ¬ (r_4 = 107)) (c_9 : ¬ (8 < x_6)) (c_10 : ¬ (4 < x_8)) (c_12 : ¬ (r_11 = 0)) : F_X1_senseFault_L11 fN nN p0 p1 (nf + 1) v3a v4a v5a v6a = F_X1_senseFault_L11 fN nN p0 p1 nf x_6 x_8 r_13 x_14 := by subst er_4 ex_6 ex_8 er_11 er_13 ex_14; exact (if_neg c_1).trans ((if_neg c_2).trans ((if_neg c_3).trans ((if_neg c_5).trans ((if_neg c_7).trans ((if_neg c_9).trans ((if_neg c_10).trans ((if_neg c_12).trans (rfl))))))))
set_option maxRecDepth 100000 in
theorem eX1_senseFault_7 (fN : Nat → Int32) (nN : Int32) (p0 : Int32) (p1 : Int32) (nf : Nat) (v3a : Int32) (v4a : Int32) (v5a : Int32) (v6a : Int32) (r_4 : Int32) (x_6 : Int32) (x_8 : Int32) (r_11 : Int32) (er_4 : r_4 = (F_X1_letterAt fN nN v5a)) (ex_6 : x_6 = (v3a + 0)) (ex_8 : x_8 = (v4a + 0)) (er_11 : r_11 = (F_X1_isInRange fN nN v5a)) (c_1 : ¬ (96 ≤ v6a)) (c_2 : ¬ (v5a < 0)) (c_3 : ¬ (nN ≤ v5a)) (c_5 : ¬ (r_4 = 108)) (c_7 : ¬ (r_4 = 107)) (c_9 : ¬ (8 < x_6)) (c_10 : ¬ (4 < x_8)) (c_12 : r_11 = 0) : F_X1_senseFault_L11 fN nN p0 p1 (nf + 1) v3a v4a v5a v6a = v5a := by subst er_4 ex_6 ex_8 er_11; exact (if_neg c_1).trans ((if_neg c_2).trans ((if_neg c_3).trans ((if_neg c_5).trans ((if_neg c_7).trans ((if_neg c_9).trans ((if_neg c_10).trans ((if_pos c_12).trans (rfl))))))))
set_option maxRecDepth 100000 in
theorem eX1_senseFault_8 (fN : Nat → Int32) (nN : Int32) (p0 : Int32) (p1 : Int32) (nf : Nat) (v3a : Int32) (v4a : Int32) (v5a : Int32) (v6a : Int32) (r_4 : Int32) (x_6 : Int32) (x_15 : Int32) (er_4 : r_4 = (F_X1_letterAt fN nN v5a)) (ex_6 : x_6 = (v3a + 0)) (ex_15 : x_15 = (v4a + 1)) (c_1 : ¬ (96 ≤ v6a)) (c_2 : ¬ (v5a < 0)) (c_3 : ¬ (nN ≤ v5a)) (c_5 : ¬ (r_4 = 108)) (c_7 : r_4 = 107) (c_16 : 8 < x_6) : F_X1_senseFault_L11 fN nN p0 p1 (nf + 1) v3a v4a v5a v6a = v5a := by subst er_4 ex_6 ex_15; exact (if_neg c_1).trans ((if_neg c_2).trans ((if_neg c_3).trans ((if_neg c_5).trans ((if_pos c_7).trans ((if_pos c_16).trans (rfl))))))
set_option maxRecDepth 100000 in
theorem eX1_senseFault_9 (fN : Nat → Int32) (nN : Int32) (p0 : Int32) (p1 : Int32) (nf : Nat) (v3a : Int32) (v4a : Int32) (v5a : Int32) (v6a : Int32) (r_4 : Int32) (x_6 : Int32) (x_15 : Int32) (er_4 : r_4 = (F_X1_letterAt fN nN v5a)) (ex_6 : x_6 = (v3a + 0)) (ex_15 : x_15 = (v4a + 1)) (c_1 : ¬ (96 ≤ v6a)) (c_2 : ¬ (v5a < 0)) (c_3 : ¬ (nN ≤ v5a)) (c_5 : ¬ (r_4 = 108)) (c_7 : r_4 = 107) (c_16 : ¬ (8 < x_6)) (c_17 : 4 < x_15) : F_X1_senseFault_L11 fN nN p0 p1 (nf + 1) v3a v4a v5a v6a = v5a := by subst er_4 ex_6 ex_15; exact (if_neg c_1).trans ((if_neg c_2).trans ((if_neg c_3).trans ((if_neg c_5).trans ((if_pos c_7).trans ((if_neg c_16).trans ((if_pos c_17).trans (rfl)))))))
set_option maxRecDepth 100000 in
theorem eX1_senseFault_10 (fN : Nat → Int32) (nN : Int32) (p0 : Int32) (p1 : Int32) (nf : Nat) (v3a : Int32) (v4a : Int32) (v5a : Int32) (v6a : Int32) (r_4 : Int32) (x_6 : Int32) (x_15 : Int32) (r_18 : Int32) (r_20 : Int32) (x_21 : Int32) (er_4 : r_4 = (F_X1_letterAt fN nN v5a)) (ex_6 : x_6 = (v3a + 0)) (ex_15 : x_15 = (v4a + 1)) (er_18 : r_18 = (F_X1_isInRange fN nN v5a)) (er_20 : r_20 = (F_X1_behindStatement fN nN v5a)) (ex_21 : x_21 = v6a + 1) (c_1 : ¬ (96 ≤ v6a)) (c_2 : ¬ (v5a < 0)) (c_3 : ¬ (nN ≤ v5a)) (c_5 : ¬ (r_4 = 108)) (c_7 : r_4 = 107) (c_16 : ¬ (8 < x_6)) (c_17 : ¬ (4 < x_15)) (c_19 : ¬ (r_18 = 0)) : F_X1_senseFault_L11 fN nN p0 p1 (nf + 1) v3a v4a v5a v6a = F_X1_senseFault_L11 fN nN p0 p1 nf x_6 x_15 r_20 x_21 := by subst er_4 ex_6 ex_15 er_18 er_20 ex_21; exact (if_neg c_1).trans ((if_neg c_2).trans ((if_neg c_3).trans ((if_neg c_5).trans ((if_pos c_7).trans ((if_neg c_16).trans ((if_neg c_17).trans ((if_neg c_19).trans (rfl))))))))
set_option maxRecDepth 100000 in
theorem eX1_senseFault_11 (fN : Nat → Int32) (nN : Int32) (p0 : Int32) (p1 : Int32) (nf : Nat) (v3a : Int32) (v4a : Int32) (v5a : Int32) (v6a : Int32) (r_4 : Int32) (x_6 : Int32) (x_15 : Int32) (r_18 : Int32) (er_4 : r_4 = (F_X1_letterAt fN nN v5a)) (ex_6 : x_6 = (v3a + 0)) (ex_15 : x_15 = (v4a + 1)) (er_18 : r_18 = (F_X1_isInRange fN nN v5a)) (c_1 : ¬ (96 ≤ v6a)) (c_2 : ¬ (v5a < 0)) (c_3 : ¬ (nN ≤ v5a)) (c_5 : ¬ (r_4 = 108)) (c_7 : r_4 = 107) (c_16 : ¬ (8 < x_6)) (c_17 : ¬ (4 < x_15)) (c_19 : r_18 = 0) : F_X1_senseFault_L11 fN nN p0 p1 (nf + 1) v3a v4a v5a v6a = v5a := by subst er_4 ex_6 ex_15 er_18; exact (if_neg c_1).trans ((if_neg c_2).trans ((if_neg c_3).trans ((if_neg c_5).trans ((if_pos c_7).trans ((if_neg c_16).trans ((if_neg c_17).trans ((if_pos c_19).trans (rfl))))))))
set_option maxRecDepth 100000 in
theorem eX1_senseFault_12 (fN : Nat → Int32) (nN : Int32) (p0 : Int32) (p1 : Int32) (nf : Nat) (v3a : Int32) (v4a : Int32) (v5a : Int32) (v6a : Int32) (r_4 : Int32) (x_22 : Int32) (x_24 : Int32) (er_4 : r_4 = (F_X1_letterAt fN nN v5a)) (ex_22 : x_22 = (v3a + 1)) (ex_24 : x_24 = (v4a + 0)) (c_1 : ¬ (96 ≤ v6a)) (c_2 : ¬ (v5a < 0)) (c_3 : ¬ (nN ≤ v5a)) (c_5 : r_4 = 108) (c_23 : ¬ (r_4 = 107)) (c_25 : 8 < x_22) : F_X1_senseFault_L11 fN nN p0 p1 (nf + 1) v3a v4a v5a v6a = v5a := by subst er_4 ex_22 ex_24; exact (if_neg c_1).trans ((if_neg c_2).trans ((if_neg c_3).trans ((if_pos c_5).trans ((if_neg c_23).trans ((if_pos c_25).trans (rfl))))))
set_option maxRecDepth 100000 in
theorem eX1_senseFault_13 (fN : Nat → Int32) (nN : Int32) (p0 : Int32) (p1 : Int32) (nf : Nat) (v3a : Int32) (v4a : Int32) (v5a : Int32) (v6a : Int32) (r_4 : Int32) (x_22 : Int32) (x_24 : Int32) (er_4 : r_4 = (F_X1_letterAt fN nN v5a)) (ex_22 : x_22 = (v3a + 1)) (ex_24 : x_24 = (v4a + 0)) (c_1 : ¬ (96 ≤ v6a)) (c_2 : ¬ (v5a < 0)) (c_3 : ¬ (nN ≤ v5a)) (c_5 : r_4 = 108) (c_23 : ¬ (r_4 = 107)) (c_25 : ¬ (8 < x_22)) (c_26 : 4 < x_24) : F_X1_senseFault_L11 fN nN p0 p1 (nf + 1) v3a v4a v5a v6a = v5a := by subst er_4 ex_22 ex_24; exact (if_neg c_1).trans ((if_neg c_2).trans ((if_neg c_3).trans ((if_pos c_5).trans ((if_neg c_23).trans ((if_neg c_25).trans ((if_pos c_26).trans (rfl)))))))
set_option maxRecDepth 100000 in
theorem eX1_senseFault_14 (fN : Nat → Int32) (nN : Int32) (p0 : Int32) (p1 : Int32) (nf : Nat) (v3a : Int32) (v4a : Int32) (v5a : Int32) (v6a : Int32) (r_4 : Int32) (x_22 : Int32) (x_24 : Int32) (r_27 : Int32) (r_29 : Int32) (x_30 : Int32) (er_4 : r_4 = (F_X1_letterAt fN nN v5a)) (ex_22 : x_22 = (v3a + 1)) (ex_24 : x_24 = (v4a + 0)) (er_27 : r_27 = (F_X1_isInRange fN nN v5a)) (er_29 : r_29 = (F_X1_behindStatement fN nN v5a)) (ex_30 : x_30 = v6a + 1) (c_1 : ¬ (96 ≤ v6a)) (c_2 : ¬ (v5a < 0)) (c_3 : ¬ (nN ≤ v5a)) (c_5 : r_4 = 108) (c_23 : ¬ (r_4 = 107)) (c_25 : ¬ (8 < x_22)) (c_26 : ¬ (4 < x_24)) (c_28 : ¬ (r_27 = 0)) : F_X1_senseFault_L11 fN nN p0 p1 (nf + 1) v3a v4a v5a v6a = F_X1_senseFault_L11 fN nN p0 p1 nf x_22 x_24 r_29 x_30 := by subst er_4 ex_22 ex_24 er_27 er_29 ex_30; exact (if_neg c_1).trans ((if_neg c_2).trans ((if_neg c_3).trans ((if_pos c_5).trans ((if_neg c_23).trans ((if_neg c_25).trans ((if_neg c_26).trans ((if_neg c_28).trans (rfl))))))))
set_option maxRecDepth 100000 in
theorem eX1_senseFault_15 (fN : Nat → Int32) (nN : Int32) (p0 : Int32) (p1 : Int32) (nf : Nat) (v3a : Int32) (v4a : Int32) (v5a : Int32) (v6a : Int32) (r_4 : Int32) (x_22 : Int32) (x_24 : Int32) (r_27 : Int32) (er_4 : r_4 = (F_X1_letterAt fN nN v5a)) (ex_22 : x_22 = (v3a + 1)) (ex_24 : x_24 = (v4a + 0)) (er_27 : r_27 = (F_X1_isInRange fN nN v5a)) (c_1 : ¬ (96 ≤ v6a)) (c_2 : ¬ (v5a < 0)) (c_3 : ¬ (nN ≤ v5a)) (c_5 : r_4 = 108) (c_23 : ¬ (r_4 = 107)) (c_25 : ¬ (8 < x_22)) (c_26 : ¬ (4 < x_24)) (c_28 : r_27 = 0) : F_X1_senseFault_L11 fN nN p0 p1 (nf + 1) v3a v4a v5a v6a = v5a := by subst er_4 ex_22 ex_24 er_27; exact (if_neg c_1).trans ((if_neg c_2).trans ((if_neg c_3).trans ((if_pos c_5).trans ((if_neg c_23).trans ((if_neg c_25).trans ((if_neg c_26).trans ((if_pos c_28).trans (rfl))))))))
set_option maxRecDepth 100000 in
theorem eX1_senseFault_16 (fN : Nat → Int32) (nN : Int32) (p0 : Int32) (p1 : Int32) (nf : Nat) (v3a : Int32) (v4a : Int32) (v5a : Int32) (v6a : Int32) (r_4 : Int32) (x_22 : Int32) (x_31 : Int32) (er_4 : r_4 = (F_X1_letterAt fN nN v5a)) (ex_22 : x_22 = (v3a + 1)) (ex_31 : x_31 = (v4a + 1)) (c_1 : ¬ (96 ≤ v6a)) (c_2 : ¬ (v5a < 0)) (c_3 : ¬ (nN ≤ v5a)) (c_5 : r_4 = 108) (c_23 : r_4 = 107) (c_32 : 8 < x_22) : F_X1_senseFault_L11 fN nN p0 p1 (nf + 1) v3a v4a v5a v6a = v5a := by subst er_4 ex_22 ex_31; exact (if_neg c_1).trans ((if_neg c_2).trans ((if_neg c_3).trans ((if_pos c_5).trans ((if_pos c_23).trans ((if_pos c_32).trans (rfl))))))
set_option maxRecDepth 100000 in
theorem eX1_senseFault_17 (fN : Nat → Int32) (nN : Int32) (p0 : Int32) (p1 : Int32) (nf : Nat) (v3a : Int32) (v4a : Int32) (v5a : Int32) (v6a : Int32) (r_4 : Int32) (x_22 : Int32) (x_31 : Int32) (er_4 : r_4 = (F_X1_letterAt fN nN v5a)) (ex_22 : x_22 = (v3a + 1)) (ex_31 : x_31 = (v4a + 1)) (c_1 : ¬ (96 ≤ v6a)) (c_2 : ¬ (v5a < 0)) (c_3 : ¬ (nN ≤ v5a)) (c_5 : r_4 = 108) (c_23 : r_4 = 107) (c_32 : ¬ (8 < x_22)) (c_33 : 4 < x_31) : F_X1_senseFault_L11 fN nN p0 p1 (nf + 1) v3a v4a v5a v6a = v5a := by subst er_4 ex_22 ex_31; exact (if_neg c_1).trans ((if_neg c_2).trans ((if_neg c_3).trans ((if_pos c_5).trans ((if_pos c_23).trans ((if_neg c_32).trans ((if_pos c_33).trans (rfl)))))))
set_option maxRecDepth 100000 in
theorem eX1_senseFault_18 (fN : Nat → Int32) (nN : Int32) (p0 : Int32) (p1 : Int32) (nf : Nat) (v3a : Int32) (v4a : Int32) (v5a : Int32) (v6a : Int32) (r_4 : Int32) (x_22 : Int32) (x_31 : Int32) (r_34 : Int32) (r_36 : Int32) (x_37 : Int32) (er_4 : r_4 = (F_X1_letterAt fN nN v5a)) (ex_22 : x_22 = (v3a + 1)) (ex_31 : x_31 = (v4a + 1)) (er_34 : r_34 = (F_X1_isInRange fN nN v5a)) (er_36 : r_36 = (F_X1_behindStatement fN nN v5a)) (ex_37 : x_37 = v6a + 1) (c_1 : ¬ (96 ≤ v6a)) (c_2 : ¬ (v5a < 0)) (c_3 : ¬ (nN ≤ v5a)) (c_5 : r_4 = 108) (c_23 : r_4 = 107) (c_32 : ¬ (8 < x_22)) (c_33 : ¬ (4 < x_31)) (c_35 : ¬ (r_34 = 0)) : F_X1_senseFault_L11 fN nN p0 p1 (nf + 1) v3a v4a v5a v6a = F_X1_senseFault_L11 fN nN p0 p1 nf x_22 x_31 r_36 x_37 := by subst er_4 ex_22 ex_31 er_34 er_36 ex_37; exact (if_neg c_1).trans ((if_neg c_2).trans ((if_neg c_3).trans ((if_pos c_5).trans ((if_pos c_23).trans ((if_neg c_32).trans ((if_neg c_33).trans ((if_neg c_35).trans (rfl))))))))
set_option maxRecDepth 100000 in
theorem eX1_senseFault_19 (fN : Nat → Int32) (nN : Int32) (p0 : Int32) (p1 : Int32) (nf : Nat) (v3a : Int32) (v4a : Int32) (v5a : Int32) (v6a : Int32) (r_4 : Int32) (x_22 : Int32) (x_31 : Int32) (r_34 : Int32) (er_4 : r_4 = (F_X1_letterAt fN nN v5a)) (ex_22 : x_22 = (v3a + 1)) (ex_31 : x_31 = (v4a + 1)) (er_34 : r_34 = (F_X1_isInRange fN nN v5a)) (c_1 : ¬ (96 ≤ v6a)) (c_2 : ¬ (v5a < 0)) (c_3 : ¬ (nN ≤ v5a)) (c_5 : r_4 = 108) (c_23 : r_4 = 107) (c_32 : ¬ (8 < x_22)) (c_33 : ¬ (4 < x_31)) (c_35 : r_34 = 0) : F_X1_senseFault_L11 fN nN p0 p1 (nf + 1) v3a v4a v5a v6a = v5a := by subst er_4 ex_22 ex_31 er_34; exact (if_neg c_1).trans ((if_neg c_2).trans ((if_neg c_3).trans ((if_pos c_5).trans ((if_pos c_23).trans ((if_neg c_32).trans ((if_neg c_33).trans ((if_pos c_35).trans (rfl))))))))
set_option maxHeartbeats 4000000 in
set_option maxRecDepth 100000 in
theorem c_X1_senseFault (l : Launch) (D : va_G) (cI cL : ClassId)   (adN : Nat) (adNa : Nat) (fN : Nat → Int32) (nN : Int32) (p0 : Int32) (p1 : Int32)  : Xi l yX1_senseFault (wm yX1_senseFault cX1_senseFault 8 (some .int)) (xR (4) (89)) D (tyA cI cL) [.ref adN, .int p0, .int p1] [(adN, .inr (1, [.ref adNa, .int nN])), (adNa, .inl (cI, 96, .inl fN))] [(adN, .inr (1, [.ref adNa, .int nN])), (adNa, .inl (cI, 96, .inl fN))] (F_X1_senseFault fN nN p0 p1) := by
  intro sz
  refine x_in (cc := cX1_senseFault) (maxL := 8) (ret := (some .int)) (by decide) rfl (Nat.le_of_ble_eq_true rfl) (fun p e s m below meth c A ls hfix hr hlocks hN hK hP hAe hD hA hS hl => ?_)
  obtain ⟨hx, hb, hml, hown, hts⟩ := hfix
  rw [← hAe]
  clear hAe
  have hown : s.vm.findClass RX1 = some m.cls := hown
  have htL : ∀ w ∈ wsL_law, w.before ([.ref adN, .int p0, .int p1] : List Value).toArray s = true := fun w h => hts w (List.mem_cons_of_mem _ h)
  have hl : lv_has ls 8 [(0, .ref adN), (1, .int p0), (2, .int p1)] := hl
  refine lv_iload_n hx hb dX1_senseFault_0 rfl (lv_at hl 1 rfl) ?_
  refine lv_istore_n (lv' := [(3, .int p0), (0, .ref adN), (1, .int p0), (2, .int p1)]) hx hb dX1_senseFault_1 rfl hl (by decide) rfl (fun ls hl => ?_)
  refine lv_iload_n hx hb dX1_senseFault_2 rfl (lv_at hl 3 rfl) ?_
  refine lv_istore (lv' := [(4, .int p1), (3, .int p0), (0, .ref adN), (1, .int p0), (2, .int p1)]) hx hb dX1_senseFault_3 hl (by decide) rfl (fun ls hl => ?_)
  refine lv_iconst (v := 0) hx hb dX1_senseFault_5 (by decide) ?_
  refine lv_istore (lv' := [(5, .int 0), (4, .int p1), (3, .int p0), (0, .ref adN), (1, .int p0), (2, .int p1)]) hx hb dX1_senseFault_6 hl (by decide) rfl (fun ls hl => ?_)
  refine lv_iconst (v := 0) hx hb dX1_senseFault_8 (by decide) ?_
  refine lv_istore (lv' := [(6, .int 0), (5, .int 0), (4, .int p1), (3, .int p0), (0, .ref adN), (1, .int p0), (2, .int p1)]) hx hb dX1_senseFault_9 hl (by decide) rfl (fun ls hl => ?_)
  have loop : ∀ (nf : Nat) (v3a : Int32) (v4a : Int32) (v5a : Int32) (v6a : Int32) (H : Heap) (locs : List Loc) (ls : Array Slot), ((96 : Int32).toInt - v6a.toInt).toNat < nf → F_X1_senseFault fN nN p0 p1 = F_X1_senseFault_L11 fN nN p0 p1 nf v3a v4a v5a v6a → va_P D vwCl [(adN, .inr (1, [.ref adNa, .int nN])), (adNa, .inl (cI, 96, .inl fN))] H → va_D A [(adN, .inr (1, [.ref adNa, .int nN])), (adNa, .inl (cI, 96, .inl fN))] → va_S A s.heap H locs → lv_has ls 8 [(6, .int v6a), (5, .int v5a), (4, .int v4a), (3, .int v3a), (0, .ref adN), (1, .int p0), (2, .int p1)] → W p l e (xR (4) (89)) s m ([.ref adN, .int p0, .int p1] : List Value).toArray below meth c H locs 0 0 (MQ below (va_Qi (fun (r' : Int32) (_ : Unit) => r' = (F_X1_senseFault fN nN p0 p1)) (xE D [(adN, .inr (1, [.ref adNa, .int nN])), (adNa, .inl (cI, 96, .inl fN))]) A) ([.ref adN, .int p0, .int p1] : List Value).toArray s 0 0 A) (F0 m 11 ls []) := by
    intro nf
    induction nf with
    | zero => intro v3a v4a v5a v6a H locs ls hm; exact absurd hm (Nat.not_lt_zero _)
    | succ nf ih =>
      intro v3a v4a v5a v6a H locs ls hm hF hP hD hS hl
      refine lv_iload hx hb dX1_senseFault_11 (lv_at hl 0 rfl) ?_
      refine lv_bipush (v := 96) hx hb dX1_senseFault_13 (by decide) ?_
      refine lv_icmp_ge (tgt := 110) hx hb dX1_senseFault_15 (by decide) (fun c_1 => ?_) (fun c_1 => ?_)
      · refine lv_bipush (v := (-9)) hx hb dX1_senseFault_110 (by decide) ?_
        have hF1 : F_X1_senseFault fN nN p0 p1 = (-9) := hF.trans (eX1_senseFault_1 fN nN p0 p1 nf v3a v4a v5a v6a c_1)
        exact xi_ret hx hb hr hlocks hP hS rfl (congrArg (fun o : Int32 => o) hF1).symm dX1_senseFault_112
      · refine lv_iload hx hb dX1_senseFault_18 (lv_at hl 1 rfl) ?_
        refine lv_if_lt (tgt := 110) hx hb dX1_senseFault_20 (by decide) (fun c_2 => ?_) (fun c_2 => ?_)
        · refine lv_bipush (v := (-9)) hx hb dX1_senseFault_110 (by decide) ?_
          have hF1 : F_X1_senseFault fN nN p0 p1 = (-9) := hF.trans (eX1_senseFault_2 fN nN p0 p1 nf v3a v4a v5a v6a c_1 c_2)
          exact xi_ret hx hb hr hlocks hP hS rfl (congrArg (fun o : Int32 => o) hF1).symm dX1_senseFault_112
        · refine lv_iload hx hb dX1_senseFault_23 (lv_at hl 1 rfl) ?_
          refine lv_aload_n hx hb dX1_senseFault_25 rfl (lv_at hl 4 rfl) ?_
          refine va_get (D := D) (ci := 1) (v := .int nN) (C := RX1) (T := TX1) (N := 2) hx hb hts (fun _ h => w_in (inlX1 _ h)) hown hK hP 0 rfl rfl 1 (by decide) (htL _ wd_82) (fun _ h9 => h9) rfl dX1_senseFault_26 ?_
          refine lv_icmp_ge (tgt := 110) hx hb dX1_senseFault_29 (by decide) (fun c_3 => ?_) (fun c_3 => ?_)
          · refine lv_bipush (v := (-9)) hx hb dX1_senseFault_110 (by decide) ?_
            have hF1 : F_X1_senseFault fN nN p0 p1 = (-9) := hF.trans (eX1_senseFault_3 fN nN p0 p1 nf v3a v4a v5a v6a c_1 c_2 c_3)
            exact xi_ret hx hb hr hlocks hP hS rfl (congrArg (fun o : Int32 => o) hF1).symm dX1_senseFault_112
          · refine lv_aload_n hx hb dX1_senseFault_32 rfl (lv_at hl 4 rfl) ?_
            refine lv_iload hx hb dX1_senseFault_33 (lv_at hl 1 rfl) ?_
            refine x_ci [0, 1] (va_runV (As := [.int v5a]) (rest := []) ⟨hx, hb, hml, hown, hts⟩ (c_X1_letterAt l D cI cL adN adNa fN nN v5a _) (cwV 1 hts (gv_ok (fun _ h => w_in h) wd_183 wd_180 wd_181 wd_182 wd_19) rfl rfl rfl (by decide +kernel) ⟨Nat.le_of_ble_eq_true rfl, Nat.le_of_ble_eq_true rfl⟩) (x_pv hN hK hP hD [0, 1] rfl rfl (ci := 1) (q0 := 0) rfl rfl) rfl rfl hl.1 rfl (lv_room (Nat.le_of_ble_eq_true rfl)) dX1_senseFault_35 ⟨Nat.zero_le _, Nat.zero_le _⟩) hP hD hS hA rfl (fun r_4 H locs er_4 hP hS => ?_)
            refine lv_istore (lv' := [(7, .int r_4), (6, .int v6a), (5, .int v5a), (4, .int v4a), (3, .int v3a), (0, .ref adN), (1, .int p0), (2, .int p1)]) hx hb dX1_senseFault_38 hl (by decide) rfl (fun ls hl => ?_)
            refine lv_iload_n hx hb dX1_senseFault_40 rfl (lv_at hl 4 rfl) ?_
            refine lv_iload hx hb dX1_senseFault_41 (lv_at hl 0 rfl) ?_
            refine lv_bipush (v := 108) hx hb dX1_senseFault_43 (by decide) ?_
            refine lv_icmp_ne (tgt := 52) hx hb dX1_senseFault_45 (by decide) (fun c_5 => ?_) (fun c_5 => ?_)
            · refine lv_iconst (v := 0) hx hb dX1_senseFault_52 (by decide) ?_
              refine lv_iadd hx hb dX1_senseFault_53 ?_
              refine lv_topi (fun x_6 ex_6 => ?_)
              refine lv_istore_n (lv' := [(3, .int x_6), (7, .int r_4), (6, .int v6a), (5, .int v5a), (4, .int v4a), (0, .ref adN), (1, .int p0), (2, .int p1)]) hx hb dX1_senseFault_54 rfl hl (by decide) rfl (fun ls hl => ?_)
              refine lv_iload hx hb dX1_senseFault_55 (lv_at hl 4 rfl) ?_
              refine lv_iload hx hb dX1_senseFault_57 (lv_at hl 1 rfl) ?_
              refine lv_bipush (v := 107) hx hb dX1_senseFault_59 (by decide) ?_
              refine lv_icmp_ne (tgt := 68) hx hb dX1_senseFault_61 (by decide) (fun c_7 => ?_) (fun c_7 => ?_)
              · refine lv_iconst (v := 0) hx hb dX1_senseFault_68 (by decide) ?_
                refine lv_iadd hx hb dX1_senseFault_69 ?_
                refine lv_topi (fun x_8 ex_8 => ?_)
                refine lv_istore (lv' := [(4, .int x_8), (3, .int x_6), (7, .int r_4), (6, .int v6a), (5, .int v5a), (0, .ref adN), (1, .int p0), (2, .int p1)]) hx hb dX1_senseFault_70 hl (by decide) rfl (fun ls hl => ?_)
                refine lv_iload_n hx hb dX1_senseFault_72 rfl (lv_at hl 1 rfl) ?_
                refine lv_bipush (v := 8) hx hb dX1_senseFault_73 (by decide) ?_
                refine lv_icmp_gt (tgt := 93) hx hb dX1_senseFault_75 (by decide) (fun c_9 => ?_) (fun c_9 => ?_)
                · refine lv_iload hx hb dX1_senseFault_93 (lv_at hl 4 rfl) ?_
                  have hF1 : F_X1_senseFault fN nN p0 p1 = v5a := hF.trans (eX1_senseFault_4 fN nN p0 p1 nf v3a v4a v5a v6a r_4 x_6 x_8 er_4 ex_6 ex_8 c_1 c_2 c_3 c_5 c_7 c_9)
                  exact xi_ret hx hb hr hlocks hP hS rfl (congrArg (fun o : Int32 => o) hF1).symm dX1_senseFault_95
                · refine lv_iload hx hb dX1_senseFault_78 (lv_at hl 0 rfl) ?_
                  refine lv_iconst (v := 4) hx hb dX1_senseFault_80 (by decide) ?_
                  refine lv_icmp_gt (tgt := 93) hx hb dX1_senseFault_81 (by decide) (fun c_10 => ?_) (fun c_10 => ?_)
                  · refine lv_iload hx hb dX1_senseFault_93 (lv_at hl 4 rfl) ?_
                    have hF1 : F_X1_senseFault fN nN p0 p1 = v5a := hF.trans (eX1_senseFault_5 fN nN p0 p1 nf v3a v4a v5a v6a r_4 x_6 x_8 er_4 ex_6 ex_8 c_1 c_2 c_3 c_5 c_7 c_9 c_10)
                    exact xi_ret hx hb hr hlocks hP hS rfl (congrArg (fun o : Int32 => o) hF1).symm dX1_senseFault_95
                  · refine lv_aload_n hx hb dX1_senseFault_84 rfl (lv_at hl 5 rfl) ?_
                    refine lv_iload hx hb dX1_senseFault_85 (lv_at hl 4 rfl) ?_
                    refine x_ci [0, 1] (va_runV (As := [.int v5a]) (rest := []) ⟨hx, hb, hml, hown, hts⟩ (c_X1_isInRange l D cI cL adN adNa fN nN v5a _) (cwV 1 hts (gv_ok (fun _ h => w_in h) wd_202 wd_199 wd_200 wd_201 wd_19) rfl rfl rfl (by decide +kernel) ⟨Nat.le_of_ble_eq_true rfl, Nat.le_of_ble_eq_true rfl⟩) (x_pv hN hK hP hD [0, 1] rfl rfl (ci := 1) (q0 := 0) rfl rfl) rfl rfl hl.1 rfl (lv_room (Nat.le_of_ble_eq_true rfl)) dX1_senseFault_87 ⟨Nat.zero_le _, Nat.zero_le _⟩) hP hD hS hA rfl (fun r_11 H locs er_11 hP hS => ?_)
                    refine lv_if_ne (tgt := 96) hx hb dX1_senseFault_90 (by decide) (fun c_12 => ?_) (fun c_12 => ?_)
                    · refine lv_aload_n hx hb dX1_senseFault_96 rfl (lv_at hl 5 rfl) ?_
                      refine lv_iload hx hb dX1_senseFault_97 (lv_at hl 4 rfl) ?_
                      refine x_ci [0, 1] (va_runV (As := [.int v5a]) (rest := []) ⟨hx, hb, hml, hown, hts⟩ (c_X1_behindStatement l D cI cL adN adNa fN nN v5a _) (cwV 1 hts (gv_ok (fun _ h => w_in h) wd_179 wd_176 wd_177 wd_178 wd_19) rfl rfl rfl (by decide +kernel) ⟨Nat.le_of_ble_eq_true rfl, Nat.le_of_ble_eq_true rfl⟩) (x_pv hN hK hP hD [0, 1] rfl rfl (ci := 1) (q0 := 0) rfl rfl) rfl rfl hl.1 rfl (lv_room (Nat.le_of_ble_eq_true rfl)) dX1_senseFault_99 ⟨Nat.zero_le _, Nat.zero_le _⟩) hP hD hS hA rfl (fun r_13 H locs er_13 hP hS => ?_)
                      refine lv_istore (lv' := [(5, .int r_13), (4, .int x_8), (3, .int x_6), (7, .int r_4), (6, .int v6a), (0, .ref adN), (1, .int p0), (2, .int p1)]) hx hb dX1_senseFault_102 hl (by decide) rfl (fun ls hl => ?_)
                      obtain ⟨x_14, ex_14⟩ : ∃ y : Int32, y = v6a + 1 := ⟨_, rfl⟩
                      refine lv_iinc (v := x_14) (lv' := [(6, .int x_14), (5, .int r_13), (4, .int x_8), (3, .int x_6), (7, .int r_4), (0, .ref adN), (1, .int p0), (2, .int p1)]) hx hb dX1_senseFault_104 hl (k := 4) rfl (by rw [ex_14]; rfl) (by decide) rfl (fun ls hl => ?_)
                      refine lv_goto (tgt := 11) hx hb dX1_senseFault_107 (by decide) ?_
                      exact ih x_6 x_8 r_13 x_14 _ _ _ (by rw [ex_14]; first | exact x_up (by assumption) hm | exact x_up' (by assumption) hm | exact x_up c_1 hm | exact x_up c_3 hm | omega) (hF.trans (eX1_senseFault_6 fN nN p0 p1 nf v3a v4a v5a v6a r_4 x_6 x_8 r_11 r_13 x_14 er_4 ex_6 ex_8 er_11 er_13 ex_14 c_1 c_2 c_3 c_5 c_7 c_9 c_10 c_12)) hP hD hS (lv_sub hl [0, 1, 2, 3, 5, 6, 7] rfl)
                    · refine lv_iload hx hb dX1_senseFault_93 (lv_at hl 4 rfl) ?_
                      have hF1 : F_X1_senseFault fN nN p0 p1 = v5a := hF.trans (eX1_senseFault_7 fN nN p0 p1 nf v3a v4a v5a v6a r_4 x_6 x_8 r_11 er_4 ex_6 ex_8 er_11 c_1 c_2 c_3 c_5 c_7 c_9 c_10 c_12)
                      exact xi_ret hx hb hr hlocks hP hS rfl (congrArg (fun o : Int32 => o) hF1).symm dX1_senseFault_95
              · refine lv_iconst (v := 1) hx hb dX1_senseFault_64 (by decide) ?_
                refine lv_goto (tgt := 69) hx hb dX1_senseFault_65 (by decide) ?_
                refine lv_iadd hx hb dX1_senseFault_69 ?_
                refine lv_topi (fun x_15 ex_15 => ?_)
                refine lv_istore (lv' := [(4, .int x_15), (3, .int x_6), (7, .int r_4), (6, .int v6a), (5, .int v5a), (0, .ref adN), (1, .int p0), (2, .int p1)]) hx hb dX1_senseFault_70 hl (by decide) rfl (fun ls hl => ?_)
                refine lv_iload_n hx hb dX1_senseFault_72 rfl (lv_at hl 1 rfl) ?_
                refine lv_bipush (v := 8) hx hb dX1_senseFault_73 (by decide) ?_
                refine lv_icmp_gt (tgt := 93) hx hb dX1_senseFault_75 (by decide) (fun c_16 => ?_) (fun c_16 => ?_)
                · refine lv_iload hx hb dX1_senseFault_93 (lv_at hl 4 rfl) ?_
                  have hF1 : F_X1_senseFault fN nN p0 p1 = v5a := hF.trans (eX1_senseFault_8 fN nN p0 p1 nf v3a v4a v5a v6a r_4 x_6 x_15 er_4 ex_6 ex_15 c_1 c_2 c_3 c_5 c_7 c_16)
                  exact xi_ret hx hb hr hlocks hP hS rfl (congrArg (fun o : Int32 => o) hF1).symm dX1_senseFault_95
                · refine lv_iload hx hb dX1_senseFault_78 (lv_at hl 0 rfl) ?_
                  refine lv_iconst (v := 4) hx hb dX1_senseFault_80 (by decide) ?_
                  refine lv_icmp_gt (tgt := 93) hx hb dX1_senseFault_81 (by decide) (fun c_17 => ?_) (fun c_17 => ?_)
                  · refine lv_iload hx hb dX1_senseFault_93 (lv_at hl 4 rfl) ?_
                    have hF1 : F_X1_senseFault fN nN p0 p1 = v5a := hF.trans (eX1_senseFault_9 fN nN p0 p1 nf v3a v4a v5a v6a r_4 x_6 x_15 er_4 ex_6 ex_15 c_1 c_2 c_3 c_5 c_7 c_16 c_17)
                    exact xi_ret hx hb hr hlocks hP hS rfl (congrArg (fun o : Int32 => o) hF1).symm dX1_senseFault_95
                  · refine lv_aload_n hx hb dX1_senseFault_84 rfl (lv_at hl 5 rfl) ?_
                    refine lv_iload hx hb dX1_senseFault_85 (lv_at hl 4 rfl) ?_
                    refine x_ci [0, 1] (va_runV (As := [.int v5a]) (rest := []) ⟨hx, hb, hml, hown, hts⟩ (c_X1_isInRange l D cI cL adN adNa fN nN v5a _) (cwV 1 hts (gv_ok (fun _ h => w_in h) wd_202 wd_199 wd_200 wd_201 wd_19) rfl rfl rfl (by decide +kernel) ⟨Nat.le_of_ble_eq_true rfl, Nat.le_of_ble_eq_true rfl⟩) (x_pv hN hK hP hD [0, 1] rfl rfl (ci := 1) (q0 := 0) rfl rfl) rfl rfl hl.1 rfl (lv_room (Nat.le_of_ble_eq_true rfl)) dX1_senseFault_87 ⟨Nat.zero_le _, Nat.zero_le _⟩) hP hD hS hA rfl (fun r_18 H locs er_18 hP hS => ?_)
                    refine lv_if_ne (tgt := 96) hx hb dX1_senseFault_90 (by decide) (fun c_19 => ?_) (fun c_19 => ?_)
                    · refine lv_aload_n hx hb dX1_senseFault_96 rfl (lv_at hl 5 rfl) ?_
                      refine lv_iload hx hb dX1_senseFault_97 (lv_at hl 4 rfl) ?_
                      refine x_ci [0, 1] (va_runV (As := [.int v5a]) (rest := []) ⟨hx, hb, hml, hown, hts⟩ (c_X1_behindStatement l D cI cL adN adNa fN nN v5a _) (cwV 1 hts (gv_ok (fun _ h => w_in h) wd_179 wd_176 wd_177 wd_178 wd_19) rfl rfl rfl (by decide +kernel) ⟨Nat.le_of_ble_eq_true rfl, Nat.le_of_ble_eq_true rfl⟩) (x_pv hN hK hP hD [0, 1] rfl rfl (ci := 1) (q0 := 0) rfl rfl) rfl rfl hl.1 rfl (lv_room (Nat.le_of_ble_eq_true rfl)) dX1_senseFault_99 ⟨Nat.zero_le _, Nat.zero_le _⟩) hP hD hS hA rfl (fun r_20 H locs er_20 hP hS => ?_)
                      refine lv_istore (lv' := [(5, .int r_20), (4, .int x_15), (3, .int x_6), (7, .int r_4), (6, .int v6a), (0, .ref adN), (1, .int p0), (2, .int p1)]) hx hb dX1_senseFault_102 hl (by decide) rfl (fun ls hl => ?_)
                      obtain ⟨x_21, ex_21⟩ : ∃ y : Int32, y = v6a + 1 := ⟨_, rfl⟩
                      refine lv_iinc (v := x_21) (lv' := [(6, .int x_21), (5, .int r_20), (4, .int x_15), (3, .int x_6), (7, .int r_4), (0, .ref adN), (1, .int p0), (2, .int p1)]) hx hb dX1_senseFault_104 hl (k := 4) rfl (by rw [ex_21]; rfl) (by decide) rfl (fun ls hl => ?_)
                      refine lv_goto (tgt := 11) hx hb dX1_senseFault_107 (by decide) ?_
                      exact ih x_6 x_15 r_20 x_21 _ _ _ (by rw [ex_21]; first | exact x_up (by assumption) hm | exact x_up' (by assumption) hm | exact x_up c_1 hm | exact x_up c_3 hm | omega) (hF.trans (eX1_senseFault_10 fN nN p0 p1 nf v3a v4a v5a v6a r_4 x_6 x_15 r_18 r_20 x_21 er_4 ex_6 ex_15 er_18 er_20 ex_21 c_1 c_2 c_3 c_5 c_7 c_16 c_17 c_19)) hP hD hS (lv_sub hl [0, 1, 2, 3, 5, 6, 7] rfl)
                    · refine lv_iload hx hb dX1_senseFault_93 (lv_at hl 4 rfl) ?_
                      have hF1 : F_X1_senseFault fN nN p0 p1 = v5a := hF.trans (eX1_senseFault_11 fN nN p0 p1 nf v3a v4a v5a v6a r_4 x_6 x_15 r_18 er_4 ex_6 ex_15 er_18 c_1 c_2 c_3 c_5 c_7 c_16 c_17 c_19)
                      exact xi_ret hx hb hr hlocks hP hS rfl (congrArg (fun o : Int32 => o) hF1).symm dX1_senseFault_95
            · refine lv_iconst (v := 1) hx hb dX1_senseFault_48 (by decide) ?_
              refine lv_goto (tgt := 53) hx hb dX1_senseFault_49 (by decide) ?_
              refine lv_iadd hx hb dX1_senseFault_53 ?_
              refine lv_topi (fun x_22 ex_22 => ?_)
              refine lv_istore_n (lv' := [(3, .int x_22), (7, .int r_4), (6, .int v6a), (5, .int v5a), (4, .int v4a), (0, .ref adN), (1, .int p0), (2, .int p1)]) hx hb dX1_senseFault_54 rfl hl (by decide) rfl (fun ls hl => ?_)
              refine lv_iload hx hb dX1_senseFault_55 (lv_at hl 4 rfl) ?_
              refine lv_iload hx hb dX1_senseFault_57 (lv_at hl 1 rfl) ?_
              refine lv_bipush (v := 107) hx hb dX1_senseFault_59 (by decide) ?_
              refine lv_icmp_ne (tgt := 68) hx hb dX1_senseFault_61 (by decide) (fun c_23 => ?_) (fun c_23 => ?_)
              · refine lv_iconst (v := 0) hx hb dX1_senseFault_68 (by decide) ?_
                refine lv_iadd hx hb dX1_senseFault_69 ?_
                refine lv_topi (fun x_24 ex_24 => ?_)
                refine lv_istore (lv' := [(4, .int x_24), (3, .int x_22), (7, .int r_4), (6, .int v6a), (5, .int v5a), (0, .ref adN), (1, .int p0), (2, .int p1)]) hx hb dX1_senseFault_70 hl (by decide) rfl (fun ls hl => ?_)
                refine lv_iload_n hx hb dX1_senseFault_72 rfl (lv_at hl 1 rfl) ?_
                refine lv_bipush (v := 8) hx hb dX1_senseFault_73 (by decide) ?_
                refine lv_icmp_gt (tgt := 93) hx hb dX1_senseFault_75 (by decide) (fun c_25 => ?_) (fun c_25 => ?_)
                · refine lv_iload hx hb dX1_senseFault_93 (lv_at hl 4 rfl) ?_
                  have hF1 : F_X1_senseFault fN nN p0 p1 = v5a := hF.trans (eX1_senseFault_12 fN nN p0 p1 nf v3a v4a v5a v6a r_4 x_22 x_24 er_4 ex_22 ex_24 c_1 c_2 c_3 c_5 c_23 c_25)
                  exact xi_ret hx hb hr hlocks hP hS rfl (congrArg (fun o : Int32 => o) hF1).symm dX1_senseFault_95
                · refine lv_iload hx hb dX1_senseFault_78 (lv_at hl 0 rfl) ?_
                  refine lv_iconst (v := 4) hx hb dX1_senseFault_80 (by decide) ?_
                  refine lv_icmp_gt (tgt := 93) hx hb dX1_senseFault_81 (by decide) (fun c_26 => ?_) (fun c_26 => ?_)
                  · refine lv_iload hx hb dX1_senseFault_93 (lv_at hl 4 rfl) ?_
                    have hF1 : F_X1_senseFault fN nN p0 p1 = v5a := hF.trans (eX1_senseFault_13 fN nN p0 p1 nf v3a v4a v5a v6a r_4 x_22 x_24 er_4 ex_22 ex_24 c_1 c_2 c_3 c_5 c_23 c_25 c_26)
                    exact xi_ret hx hb hr hlocks hP hS rfl (congrArg (fun o : Int32 => o) hF1).symm dX1_senseFault_95
                  · refine lv_aload_n hx hb dX1_senseFault_84 rfl (lv_at hl 5 rfl) ?_
                    refine lv_iload hx hb dX1_senseFault_85 (lv_at hl 4 rfl) ?_
                    refine x_ci [0, 1] (va_runV (As := [.int v5a]) (rest := []) ⟨hx, hb, hml, hown, hts⟩ (c_X1_isInRange l D cI cL adN adNa fN nN v5a _) (cwV 1 hts (gv_ok (fun _ h => w_in h) wd_202 wd_199 wd_200 wd_201 wd_19) rfl rfl rfl (by decide +kernel) ⟨Nat.le_of_ble_eq_true rfl, Nat.le_of_ble_eq_true rfl⟩) (x_pv hN hK hP hD [0, 1] rfl rfl (ci := 1) (q0 := 0) rfl rfl) rfl rfl hl.1 rfl (lv_room (Nat.le_of_ble_eq_true rfl)) dX1_senseFault_87 ⟨Nat.zero_le _, Nat.zero_le _⟩) hP hD hS hA rfl (fun r_27 H locs er_27 hP hS => ?_)
                    refine lv_if_ne (tgt := 96) hx hb dX1_senseFault_90 (by decide) (fun c_28 => ?_) (fun c_28 => ?_)
                    · refine lv_aload_n hx hb dX1_senseFault_96 rfl (lv_at hl 5 rfl) ?_
                      refine lv_iload hx hb dX1_senseFault_97 (lv_at hl 4 rfl) ?_
                      refine x_ci [0, 1] (va_runV (As := [.int v5a]) (rest := []) ⟨hx, hb, hml, hown, hts⟩ (c_X1_behindStatement l D cI cL adN adNa fN nN v5a _) (cwV 1 hts (gv_ok (fun _ h => w_in h) wd_179 wd_176 wd_177 wd_178 wd_19) rfl rfl rfl (by decide +kernel) ⟨Nat.le_of_ble_eq_true rfl, Nat.le_of_ble_eq_true rfl⟩) (x_pv hN hK hP hD [0, 1] rfl rfl (ci := 1) (q0 := 0) rfl rfl) rfl rfl hl.1 rfl (lv_room (Nat.le_of_ble_eq_true rfl)) dX1_senseFault_99 ⟨Nat.zero_le _, Nat.zero_le _⟩) hP hD hS hA rfl (fun r_29 H locs er_29 hP hS => ?_)
                      refine lv_istore (lv' := [(5, .int r_29), (4, .int x_24), (3, .int x_22), (7, .int r_4), (6, .int v6a), (0, .ref adN), (1, .int p0), (2, .int p1)]) hx hb dX1_senseFault_102 hl (by decide) rfl (fun ls hl => ?_)
                      obtain ⟨x_30, ex_30⟩ : ∃ y : Int32, y = v6a + 1 := ⟨_, rfl⟩
                      refine lv_iinc (v := x_30) (lv' := [(6, .int x_30), (5, .int r_29), (4, .int x_24), (3, .int x_22), (7, .int r_4), (0, .ref adN), (1, .int p0), (2, .int p1)]) hx hb dX1_senseFault_104 hl (k := 4) rfl (by rw [ex_30]; rfl) (by decide) rfl (fun ls hl => ?_)
                      refine lv_goto (tgt := 11) hx hb dX1_senseFault_107 (by decide) ?_
                      exact ih x_22 x_24 r_29 x_30 _ _ _ (by rw [ex_30]; first | exact x_up (by assumption) hm | exact x_up' (by assumption) hm | exact x_up c_1 hm | exact x_up c_3 hm | omega) (hF.trans (eX1_senseFault_14 fN nN p0 p1 nf v3a v4a v5a v6a r_4 x_22 x_24 r_27 r_29 x_30 er_4 ex_22 ex_24 er_27 er_29 ex_30 c_1 c_2 c_3 c_5 c_23 c_25 c_26 c_28)) hP hD hS (lv_sub hl [0, 1, 2, 3, 5, 6, 7] rfl)
                    · refine lv_iload hx hb dX1_senseFault_93 (lv_at hl 4 rfl) ?_
                      have hF1 : F_X1_senseFault fN nN p0 p1 = v5a := hF.trans (eX1_senseFault_15 fN nN p0 p1 nf v3a v4a v5a v6a r_4 x_22 x_24 r_27 er_4 ex_22 ex_24 er_27 c_1 c_2 c_3 c_5 c_23 c_25 c_26 c_28)
                      exact xi_ret hx hb hr hlocks hP hS rfl (congrArg (fun o : Int32 => o) hF1).symm dX1_senseFault_95
              · refine lv_iconst (v := 1) hx hb dX1_senseFault_64 (by decide) ?_
                refine lv_goto (tgt := 69) hx hb dX1_senseFault_65 (by decide) ?_
                refine lv_iadd hx hb dX1_senseFault_69 ?_
                refine lv_topi (fun x_31 ex_31 => ?_)
                refine lv_istore (lv' := [(4, .int x_31), (3, .int x_22), (7, .int r_4), (6, .int v6a), (5, .int v5a), (0, .ref adN), (1, .int p0), (2, .int p1)]) hx hb dX1_senseFault_70 hl (by decide) rfl (fun ls hl => ?_)
                refine lv_iload_n hx hb dX1_senseFault_72 rfl (lv_at hl 1 rfl) ?_
                refine lv_bipush (v := 8) hx hb dX1_senseFault_73 (by decide) ?_
                refine lv_icmp_gt (tgt := 93) hx hb dX1_senseFault_75 (by decide) (fun c_32 => ?_) (fun c_32 => ?_)
                · refine lv_iload hx hb dX1_senseFault_93 (lv_at hl 4 rfl) ?_
                  have hF1 : F_X1_senseFault fN nN p0 p1 = v5a := hF.trans (eX1_senseFault_16 fN nN p0 p1 nf v3a v4a v5a v6a r_4 x_22 x_31 er_4 ex_22 ex_31 c_1 c_2 c_3 c_5 c_23 c_32)
                  exact xi_ret hx hb hr hlocks hP hS rfl (congrArg (fun o : Int32 => o) hF1).symm dX1_senseFault_95
                · refine lv_iload hx hb dX1_senseFault_78 (lv_at hl 0 rfl) ?_
                  refine lv_iconst (v := 4) hx hb dX1_senseFault_80 (by decide) ?_
                  refine lv_icmp_gt (tgt := 93) hx hb dX1_senseFault_81 (by decide) (fun c_33 => ?_) (fun c_33 => ?_)
                  · refine lv_iload hx hb dX1_senseFault_93 (lv_at hl 4 rfl) ?_
                    have hF1 : F_X1_senseFault fN nN p0 p1 = v5a := hF.trans (eX1_senseFault_17 fN nN p0 p1 nf v3a v4a v5a v6a r_4 x_22 x_31 er_4 ex_22 ex_31 c_1 c_2 c_3 c_5 c_23 c_32 c_33)
                    exact xi_ret hx hb hr hlocks hP hS rfl (congrArg (fun o : Int32 => o) hF1).symm dX1_senseFault_95
                  · refine lv_aload_n hx hb dX1_senseFault_84 rfl (lv_at hl 5 rfl) ?_
                    refine lv_iload hx hb dX1_senseFault_85 (lv_at hl 4 rfl) ?_
                    refine x_ci [0, 1] (va_runV (As := [.int v5a]) (rest := []) ⟨hx, hb, hml, hown, hts⟩ (c_X1_isInRange l D cI cL adN adNa fN nN v5a _) (cwV 1 hts (gv_ok (fun _ h => w_in h) wd_202 wd_199 wd_200 wd_201 wd_19) rfl rfl rfl (by decide +kernel) ⟨Nat.le_of_ble_eq_true rfl, Nat.le_of_ble_eq_true rfl⟩) (x_pv hN hK hP hD [0, 1] rfl rfl (ci := 1) (q0 := 0) rfl rfl) rfl rfl hl.1 rfl (lv_room (Nat.le_of_ble_eq_true rfl)) dX1_senseFault_87 ⟨Nat.zero_le _, Nat.zero_le _⟩) hP hD hS hA rfl (fun r_34 H locs er_34 hP hS => ?_)
                    refine lv_if_ne (tgt := 96) hx hb dX1_senseFault_90 (by decide) (fun c_35 => ?_) (fun c_35 => ?_)
                    · refine lv_aload_n hx hb dX1_senseFault_96 rfl (lv_at hl 5 rfl) ?_
                      refine lv_iload hx hb dX1_senseFault_97 (lv_at hl 4 rfl) ?_
                      refine x_ci [0, 1] (va_runV (As := [.int v5a]) (rest := []) ⟨hx, hb, hml, hown, hts⟩ (c_X1_behindStatement l D cI cL adN adNa fN nN v5a _) (cwV 1 hts (gv_ok (fun _ h => w_in h) wd_179 wd_176 wd_177 wd_178 wd_19) rfl rfl rfl (by decide +kernel) ⟨Nat.le_of_ble_eq_true rfl, Nat.le_of_ble_eq_true rfl⟩) (x_pv hN hK hP hD [0, 1] rfl rfl (ci := 1) (q0 := 0) rfl rfl) rfl rfl hl.1 rfl (lv_room (Nat.le_of_ble_eq_true rfl)) dX1_senseFault_99 ⟨Nat.zero_le _, Nat.zero_le _⟩) hP hD hS hA rfl (fun r_36 H locs er_36 hP hS => ?_)
                      refine lv_istore (lv' := [(5, .int r_36), (4, .int x_31), (3, .int x_22), (7, .int r_4), (6, .int v6a), (0, .ref adN), (1, .int p0), (2, .int p1)]) hx hb dX1_senseFault_102 hl (by decide) rfl (fun ls hl => ?_)
                      obtain ⟨x_37, ex_37⟩ : ∃ y : Int32, y = v6a + 1 := ⟨_, rfl⟩
                      refine lv_iinc (v := x_37) (lv' := [(6, .int x_37), (5, .int r_36), (4, .int x_31), (3, .int x_22), (7, .int r_4), (0, .ref adN), (1, .int p0), (2, .int p1)]) hx hb dX1_senseFault_104 hl (k := 4) rfl (by rw [ex_37]; rfl) (by decide) rfl (fun ls hl => ?_)
                      refine lv_goto (tgt := 11) hx hb dX1_senseFault_107 (by decide) ?_
                      exact ih x_22 x_31 r_36 x_37 _ _ _ (by rw [ex_37]; first | exact x_up (by assumption) hm | exact x_up' (by assumption) hm | exact x_up c_1 hm | exact x_up c_3 hm | omega) (hF.trans (eX1_senseFault_18 fN nN p0 p1 nf v3a v4a v5a v6a r_4 x_22 x_31 r_34 r_36 x_37 er_4 ex_22 ex_31 er_34 er_36 ex_37 c_1 c_2 c_3 c_5 c_23 c_32 c_33 c_35)) hP hD hS (lv_sub hl [0, 1, 2, 3, 5, 6, 7] rfl)
                    · refine lv_iload hx hb dX1_senseFault_93 (lv_at hl 4 rfl) ?_
                      have hF1 : F_X1_senseFault fN nN p0 p1 = v5a := hF.trans (eX1_senseFault_19 fN nN p0 p1 nf v3a v4a v5a v6a r_4 x_22 x_31 r_34 er_4 ex_22 ex_31 er_34 c_1 c_2 c_3 c_5 c_23 c_32 c_33 c_35)
                      exact xi_ret hx hb hr hlocks hP hS rfl (congrArg (fun o : Int32 => o) hF1).symm dX1_senseFault_95
  exact loop ((((96 : Int32).toInt - (0 : Int32).toInt).toNat) + 1) p0 p1 0 0 _ _ _ (Nat.lt_succ_self _) rfl hP hD hS hl
