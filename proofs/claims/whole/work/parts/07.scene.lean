noncomputable def F_X3_who (nC : Int32) (wW : Nat → Nat) (p0 : Int32) : Option Nat :=
  if p0 < 0 then
  (none)
  else
  (if nC ≤ p0 then
  (none)
  else
  (if 4 ≤ p0 then
  (none)
  else
  ((some (wW p0.toNatClampNeg)))))
set_option maxRecDepth 100000 in
theorem eX3_who_1 (nC : Int32) (wW : Nat → Nat) (p0 : Int32) (c_1 : p0 < 0) : F_X3_who nC wW p0 = none := by exact (if_pos c_1).trans (rfl)
set_option maxRecDepth 100000 in
theorem eX3_who_2 (nC : Int32) (wW : Nat → Nat) (p0 : Int32) (c_1 : ¬ (p0 < 0)) (c_2 : nC ≤ p0) : F_X3_who nC wW p0 = none := by exact (if_neg c_1).trans ((if_pos c_2).trans (rfl))
set_option maxRecDepth 100000 in
theorem eX3_who_3 (nC : Int32) (wW : Nat → Nat) (p0 : Int32) (c_1 : ¬ (p0 < 0)) (c_2 : ¬ (nC ≤ p0)) (c_3 : 4 ≤ p0) : F_X3_who nC wW p0 = none := by exact (if_neg c_1).trans ((if_neg c_2).trans ((if_pos c_3).trans (rfl)))
set_option maxRecDepth 100000 in
theorem eX3_who_4 (nC : Int32) (wW : Nat → Nat) (p0 : Int32) (c_1 : ¬ (p0 < 0)) (c_2 : ¬ (nC ≤ p0)) (c_3 : ¬ (4 ≤ p0)) : F_X3_who nC wW p0 = (some (wW p0.toNatClampNeg)) := by exact (if_neg c_1).trans ((if_neg c_2).trans ((if_neg c_3).trans (rfl)))
set_option maxHeartbeats 4000000 in
set_option maxRecDepth 100000 in
theorem c_X3_who (l : Launch) (D : va_G) (cI cL : ClassId)   (adC : Nat) (adC0 : Nat) (adC1 : Nat) (adW : Nat) (nC : Int32) (wW : Nat → Nat) (p0 : Int32)  : Xq l yX3_who (wm yX3_who cX3_who 2 (some (.object "OverTheShoulder$Looker"))) (xR (0) (0)) D (tyA cI cL) [.ref adC, .int p0] [(adC, .inr (3, [.ref adC0, .ref adC1, .ref adW, .int nC])), (adW, .inl (cL, 4, .inr (.inr (.inr (.inr (fun j => some (wW j)))))))] [(adC, .inr (3, [.ref adC0, .ref adC1, .ref adW, .int nC])), (adW, .inl (cL, 4, .inr (.inr (.inr (.inr (fun j => some (wW j)))))))] (F_X3_who nC wW p0) := by
  intro sz
  refine x_in (cc := cX3_who) (maxL := 2) (ret := (some (.object "OverTheShoulder$Looker"))) (by decide) rfl (Nat.le_of_ble_eq_true rfl) (fun p e s m below meth c A ls hfix hr hlocks hN hK hP hAe hD hA hS hl => ?_)
  obtain ⟨hx, hb, hml, hown, hts⟩ := hfix
  rw [← hAe]
  clear hAe
  have hown : s.vm.findClass RX3 = some m.cls := hown
  have htL : ∀ w ∈ wsL_law, w.before ([.ref adC, .int p0] : List Value).toArray s = true := fun w h => hts w (List.mem_cons_of_mem _ h)
  have hl : lv_has ls 2 [(0, .ref adC), (1, .int p0)] := hl
  refine lv_iload_n hx hb dX3_who_0 rfl (lv_at hl 1 rfl) ?_
  refine lv_if_lt (tgt := 30) hx hb dX3_who_1 (by decide) (fun c_1 => ?_) (fun c_1 => ?_)
  · refine lv_null hx hb dX3_who_30 ?_
    have hF1 : F_X3_who nC wW p0 = none := (eX3_who_1 nC wW p0 c_1)
    exact xq_ret (v := none) hx hb hr hlocks hP hS rfl (congrArg (fun o : Option Nat => o) hF1).symm dX3_who_31
  · refine lv_iload_n hx hb dX3_who_4 rfl (lv_at hl 1 rfl) ?_
    refine lv_aload_n hx hb dX3_who_5 rfl (lv_at hl 0 rfl) ?_
    refine va_get (D := D) (ci := 3) (v := .int nC) (C := RX3) (T := TX3) (N := 4) hx hb hts (fun _ h => w_in (inlX3 _ h)) hown hK hP 0 rfl rfl 3 (by decide) (htL _ wd_50) (fun _ h9 => h9) rfl dX3_who_6 ?_
    refine lv_icmp_ge (tgt := 30) hx hb dX3_who_9 (by decide) (fun c_2 => ?_) (fun c_2 => ?_)
    · refine lv_null hx hb dX3_who_30 ?_
      have hF1 : F_X3_who nC wW p0 = none := (eX3_who_2 nC wW p0 c_1 c_2)
      exact xq_ret (v := none) hx hb hr hlocks hP hS rfl (congrArg (fun o : Option Nat => o) hF1).symm dX3_who_31
    · refine lv_iload_n hx hb dX3_who_12 rfl (lv_at hl 1 rfl) ?_
      refine lv_aload_n hx hb dX3_who_13 rfl (lv_at hl 0 rfl) ?_
      refine va_get (D := D) (ci := 3) (v := .ref adW) (C := RX3) (T := TX3) (N := 4) hx hb hts (fun _ h => w_in (inlX3 _ h)) hown hK hP 0 rfl rfl 2 (by decide) (htL _ wd_49) (fun _ h9 => h9) rfl dX3_who_14 ?_
      refine va_alen (v := 4) hx hb hK hP 1 1 rfl rfl rfl dX3_who_17 ?_
      refine lv_icmp_ge (tgt := 30) hx hb dX3_who_18 (by decide) (fun c_3 => ?_) (fun c_3 => ?_)
      · refine lv_null hx hb dX3_who_30 ?_
        have hF1 : F_X3_who nC wW p0 = none := (eX3_who_3 nC wW p0 c_1 c_2 c_3)
        exact xq_ret (v := none) hx hb hr hlocks hP hS rfl (congrArg (fun o : Option Nat => o) hF1).symm dX3_who_31
      · refine lv_aload_n hx hb dX3_who_21 rfl (lv_at hl 0 rfl) ?_
        refine va_get (D := D) (ci := 3) (v := .ref adW) (C := RX3) (T := TX3) (N := 4) hx hb hts (fun _ h => w_in (inlX3 _ h)) hown hK hP 0 rfl rfl 2 (by decide) (htL _ wd_49) (fun _ h9 => h9) rfl dX3_who_22 ?_
        refine lv_iload_n hx hb dX3_who_25 rfl (lv_at hl 1 rfl) ?_
        refine va_aldq hx hb hK hP 1 1 rfl rfl (x_vp (by decide) (by assumption) (by assumption)) dX3_who_26 ?_
        refine lv_goto (tgt := 31) hx hb dX3_who_27 (by decide) ?_
        have hF1 : F_X3_who nC wW p0 = (some (wW p0.toNatClampNeg)) := (eX3_who_4 nC wW p0 c_1 c_2 c_3)
        exact xq_ret (v := (some (wW p0.toNatClampNeg))) hx hb hr hlocks hP hS rfl (congrArg (fun o : Option Nat => o) hF1).symm dX3_who_31
theorem who_t {n p : Int32} {w : Nat → Nat} (h : wkb n p = true) : F_X3_who n w p = some (w p.toNatClampNeg) := by
  obtain ⟨a, b, c⟩ := wkb_t h
  exact (if_neg a).trans ((if_neg b).trans (if_neg c))
theorem who_f {n p : Int32} {w : Nat → Nat} (h : ¬ wkb n p = true) : F_X3_who n w p = none := by
  unfold F_X3_who
  rcases Decidable.em (p < 0) with a | a
  · rw [if_pos a]
  · rcases Decidable.em (n ≤ p) with b | b
    · rw [if_neg a, if_pos b]
    · rcases Decidable.em ((4 : Int32) ≤ p) with c | c
      · rw [if_neg a, if_neg b, if_pos c]
      · exact absurd (by simp [wkb, a, b, c]) h

noncomputable def F_X3_addLooker (nC : Int32) (wW : Nat → Nat) (LP : Nat → Nat → Int32) (p0 : Int32) (p1 : Int32) (p2 : Int32) : Int32 × (Nat → Nat → Int32) :=
  if 4 ≤ nC then
  ((nC, LP))
  else
  (let x_2 : Int32 := (nC + 1)
  let x_3 : Int32 := (x_2 - 1)
  if wkb x_2 x_3 = true then
  (let o_6 : Nat → Int32 := (F_X2_come (LP x_3.toNatClampNeg) p0 p1 p2)
  (x_2, (va_up LP x_3.toNatClampNeg o_6)))
  else
  ((x_2, LP)))
set_option maxRecDepth 100000 in
theorem eX3_addLooker_1 (nC : Int32) (wW : Nat → Nat) (LP : Nat → Nat → Int32) (p0 : Int32) (p1 : Int32) (p2 : Int32) (c_1 : 4 ≤ nC) : F_X3_addLooker nC wW LP p0 p1 p2 = (nC, LP) := by exact (if_pos c_1).trans (rfl)
set_option maxRecDepth 100000 in
theorem eX3_addLooker_2 (nC : Int32) (wW : Nat → Nat) (LP : Nat → Nat → Int32) (p0 : Int32) (p1 : Int32) (p2 : Int32) (x_2 : Int32) (x_3 : Int32) (o_6 : Nat → Int32) (ex_2 : x_2 = (nC + 1)) (ex_3 : x_3 = (x_2 - 1)) (eo_6 : o_6 = (F_X2_come (LP x_3.toNatClampNeg) p0 p1 p2)) (c_1 : ¬ (4 ≤ nC)) (c_5 : wkb x_2 x_3 = true) : F_X3_addLooker nC wW LP p0 p1 p2 = (x_2, (va_up LP x_3.toNatClampNeg o_6)) := by subst ex_2 ex_3 eo_6; exact (if_neg c_1).trans ((if_pos c_5).trans (rfl))
set_option maxRecDepth 100000 in
theorem eX3_addLooker_3 (nC : Int32) (wW : Nat → Nat) (LP : Nat → Nat → Int32) (p0 : Int32) (p1 : Int32) (p2 : Int32) (x_2 : Int32) (x_3 : Int32) (ex_2 : x_2 = (nC + 1)) (ex_3 : x_3 = (x_2 - 1)) (c_1 : ¬ (4 ≤ nC)) (c_5 : ¬ (wkb x_2 x_3 = true)) : F_X3_addLooker nC wW LP p0 p1 p2 = (x_2, LP) := by subst ex_2 ex_3; exact (if_neg c_1).trans ((if_neg c_5).trans (rfl))
set_option maxHeartbeats 4000000 in
set_option maxRecDepth 100000 in
theorem c_X3_addLooker (l : Launch) (D : va_G) (cI cL : ClassId)   (adC : Nat) (adC0 : Nat) (adC1 : Nat) (adW : Nat) (nC : Int32) (wW : Nat → Nat) (LP : Nat → Nat → Int32) (p0 : Int32) (p1 : Int32) (p2 : Int32)  : Xv l yX3_addLooker (wm yX3_addLooker cX3_addLooker 5 none) (xR (2) (43)) D (tyA cI cL) [.ref adC, .int p0, .int p1, .int p2] [(adC, .inr (3, [.ref adC0, .ref adC1, .ref adW, .int nC])), (adW, .inl (cL, 4, .inr (.inr (.inr (.inr (fun j => some (wW j))))))), (wW 0, ck (LP 0)), (wW 1, ck (LP 1)), (wW 2, ck (LP 2)), (wW 3, ck (LP 3))] [(adC, .inr (3, [.ref adC0, .ref adC1, .ref adW, .int (F_X3_addLooker nC wW LP p0 p1 p2).1])), (adW, .inl (cL, 4, .inr (.inr (.inr (.inr (fun j => some (wW j))))))), (wW 0, ck ((F_X3_addLooker nC wW LP p0 p1 p2).2 0)), (wW 1, ck ((F_X3_addLooker nC wW LP p0 p1 p2).2 1)), (wW 2, ck ((F_X3_addLooker nC wW LP p0 p1 p2).2 2)), (wW 3, ck ((F_X3_addLooker nC wW LP p0 p1 p2).2 3))] := by
  intro sz
  refine x_in (cc := cX3_addLooker) (maxL := 5) (ret := none) (by decide) rfl (Nat.le_of_ble_eq_true rfl) (fun p e s m below meth c A ls hfix hr hlocks hN hK hP hAe hD hA hS hl => ?_)
  obtain ⟨hx, hb, hml, hown, hts⟩ := hfix
  rw [← hAe]
  clear hAe
  have hown : s.vm.findClass RX3 = some m.cls := hown
  have htL : ∀ w ∈ wsL_law, w.before ([.ref adC, .int p0, .int p1, .int p2] : List Value).toArray s = true := fun w h => hts w (List.mem_cons_of_mem _ h)
  have hl : lv_has ls 5 [(0, .ref adC), (1, .int p0), (2, .int p1), (3, .int p2)] := hl
  refine lv_aload_n hx hb dX3_addLooker_0 rfl (lv_at hl 0 rfl) ?_
  refine va_get (D := D) (ci := 3) (v := .int nC) (C := RX3) (T := TX3) (N := 4) hx hb hts (fun _ h => w_in (inlX3 _ h)) hown hK hP 0 rfl rfl 3 (by decide) (htL _ wd_50) (fun _ h9 => h9) rfl dX3_addLooker_1 ?_
  refine lv_iconst (v := 4) hx hb dX3_addLooker_4 (by decide) ?_
  refine lv_icmp_ge (tgt := 43) hx hb dX3_addLooker_5 (by decide) (fun c_1 => ?_) (fun c_1 => ?_)
  · have hF1 : F_X3_addLooker nC wW LP p0 p1 p2 = (nC, LP) := (eX3_addLooker_1 nC wW LP p0 p1 p2 c_1)
    exact xv_ret hx hb hr hlocks hP hS (congrArg (fun o : Int32 × (Nat → Nat → Int32) => ([(adC, .inr (3, [.ref adC0, .ref adC1, .ref adW, .int o.1])), (adW, .inl (cL, 4, .inr (.inr (.inr (.inr (fun j => some (wW j))))))), (wW 0, ck (o.2 0)), (wW 1, ck (o.2 1)), (wW 2, ck (o.2 2)), (wW 3, ck (o.2 3))] : va_W)) hF1).symm dX3_addLooker_43
  · refine lv_aload_n hx hb dX3_addLooker_8 rfl (lv_at hl 0 rfl) ?_
    refine lv_dup hx hb dX3_addLooker_9 rfl ?_
    refine va_get (D := D) (ci := 3) (v := .int nC) (C := RX3) (T := TX3) (N := 4) hx hb hts (fun _ h => w_in (inlX3 _ h)) hown hK hP 0 rfl rfl 3 (by decide) (htL _ wd_50) (fun _ h9 => h9) rfl dX3_addLooker_10 ?_
    refine lv_iconst (v := 1) hx hb dX3_addLooker_13 (by decide) ?_
    refine lv_iadd hx hb dX3_addLooker_14 ?_
    refine lv_topi (fun x_2 ex_2 => ?_)
    refine va_put (D := D) (ci := 3) (v := .int x_2) (ty := .int) (C := RX3) (T := TX3) (N := 4) hx hb hts (fun _ h => w_in (inlX3 _ h)) tyX3 tyX3_ok nmX3 hown hK hP hD hS 0 rfl rfl 3 (by decide) (htL _ wd_50) (fun _ h9 => h9) rfl (by decide +kernel) rfl rfl (Nat.le_of_ble_eq_true rfl) dX3_addLooker_15 (fun H locs hP hD hS => ?_)
    have hP : va_P D vwCl [(adC, .inr (3, [.ref adC0, .ref adC1, .ref adW, .int x_2])), (adW, .inl (cL, 4, .inr (.inr (.inr (.inr (fun j => some (wW j))))))), (wW 0, ck (LP 0)), (wW 1, ck (LP 1)), (wW 2, ck (LP 2)), (wW 3, ck (LP 3))] _ := hP
    have hD : va_D A [(adC, .inr (3, [.ref adC0, .ref adC1, .ref adW, .int x_2])), (adW, .inl (cL, 4, .inr (.inr (.inr (.inr (fun j => some (wW j))))))), (wW 0, ck (LP 0)), (wW 1, ck (LP 1)), (wW 2, ck (LP 2)), (wW 3, ck (LP 3))] := hD
    refine lv_aload_n hx hb dX3_addLooker_18 rfl (lv_at hl 0 rfl) ?_
    refine lv_aload_n hx hb dX3_addLooker_19 rfl (lv_at hl 0 rfl) ?_
    refine va_get (D := D) (ci := 3) (v := .int x_2) (C := RX3) (T := TX3) (N := 4) hx hb hts (fun _ h => w_in (inlX3 _ h)) hown hK hP 0 rfl rfl 3 (by decide) (htL _ wd_50) (fun _ h9 => h9) rfl dX3_addLooker_20 ?_
    refine lv_iconst (v := 1) hx hb dX3_addLooker_23 (by decide) ?_
    refine lv_isub hx hb dX3_addLooker_24 ?_
    refine lv_topi (fun x_3 ex_3 => ?_)
    refine x_cq [0, 1] (va_runV (As := [.int x_3]) (rest := []) ⟨hx, hb, hml, hown, hts⟩ (c_X3_who l D cI cL adC adC0 adC1 adW x_2 wW x_3 _) (cwV 1 hts (gv_ok (fun _ h => w_in h) wd_234 wd_231 wd_232 wd_233 wd_14) rfl rfl rfl (by decide +kernel) ⟨Nat.le_of_ble_eq_true rfl, Nat.le_of_ble_eq_true rfl⟩) (x_pv hN hK hP hD [0, 1] rfl rfl (ci := 3) (q0 := 0) rfl rfl) rfl rfl hl.1 rfl (lv_room (Nat.le_of_ble_eq_true rfl)) dX3_addLooker_25 ⟨Nat.zero_le _, Nat.zero_le _⟩) hP hD hS hA rfl (fun r_4 H locs er_4 hP hS => ?_)
    by_cases c_5 : wkb x_2 x_3 = true
    · obtain rfl := er_4.trans (who_t c_5)
      refine W.eq (g2 := F0 m 28 ls (.ref (wW x_3.toNatClampNeg) :: [])) rfl ?_
      refine lv_astore (lv' := [(4, .ref (wW x_3.toNatClampNeg)), (0, .ref adC), (1, .int p0), (2, .int p1), (3, .int p2)]) hx hb dX3_addLooker_28 hl (by decide) rfl (fun ls hl => ?_)
      refine lv_aload hx hb dX3_addLooker_30 (lv_at hl 0 rfl) ?_
      refine lv_ifnull hx hb dX3_addLooker_32 ?_
      refine lv_aload hx hb dX3_addLooker_35 (lv_at hl 0 rfl) ?_
      refine lv_iload_n hx hb dX3_addLooker_37 rfl (lv_at hl 2 rfl) ?_
      refine lv_iload_n hx hb dX3_addLooker_38 rfl (lv_at hl 3 rfl) ?_
      refine lv_iload_n hx hb dX3_addLooker_39 rfl (lv_at hl 4 rfl) ?_
      obtain ⟨hP, hD⟩ := x_pick (base := [(adC, .inr (3, [.ref adC0, .ref adC1, .ref adW, .int x_2])), (adW, .inl (cL, 4, .inr (.inr (.inr (.inr (fun j => some (wW j)))))))]) (w := wW) (L := LP) (k := x_3.toNatClampNeg) (who_k c_5) hP hD
      have hP : va_P D vwCl ([(adC, .inr (3, [.ref adC0, .ref adC1, .ref adW, .int x_2])), (adW, .inl (cL, 4, .inr (.inr (.inr (.inr (fun j => some (wW j))))))), ((wW x_3.toNatClampNeg), .inr (2, [.int ((LP x_3.toNatClampNeg) 0), .int ((LP x_3.toNatClampNeg) 1), .int ((LP x_3.toNatClampNeg) 2), .int ((LP x_3.toNatClampNeg) 3), .int ((LP x_3.toNatClampNeg) 4), .int ((LP x_3.toNatClampNeg) 5), .int ((LP x_3.toNatClampNeg) 6), .int ((LP x_3.toNatClampNeg) 7)]))] ++ lr x_3.toNatClampNeg wW LP) _ := hP
      have hD : va_D A ([(adC, .inr (3, [.ref adC0, .ref adC1, .ref adW, .int x_2])), (adW, .inl (cL, 4, .inr (.inr (.inr (.inr (fun j => some (wW j))))))), ((wW x_3.toNatClampNeg), .inr (2, [.int ((LP x_3.toNatClampNeg) 0), .int ((LP x_3.toNatClampNeg) 1), .int ((LP x_3.toNatClampNeg) 2), .int ((LP x_3.toNatClampNeg) 3), .int ((LP x_3.toNatClampNeg) 4), .int ((LP x_3.toNatClampNeg) 5), .int ((LP x_3.toNatClampNeg) 6), .int ((LP x_3.toNatClampNeg) 7)]))] ++ lr x_3.toNatClampNeg wW LP) := hD
      refine x_wv2 (a := ([(adC, .inr (3, [.ref adC0, .ref adC1, .ref adW, .int x_2])), (adW, .inl (cL, 4, .inr (.inr (.inr (.inr (fun j => some (wW j))))))), ((wW x_3.toNatClampNeg), .inr (2, [.int ((LP x_3.toNatClampNeg) 0), .int ((LP x_3.toNatClampNeg) 1), .int ((LP x_3.toNatClampNeg) 2), .int ((LP x_3.toNatClampNeg) 3), .int ((LP x_3.toNatClampNeg) 4), .int ((LP x_3.toNatClampNeg) 5), .int ((LP x_3.toNatClampNeg) 6), .int ((LP x_3.toNatClampNeg) 7)]))] : va_W)) (t := lr x_3.toNatClampNeg wW LP) (o0 := (F_X2_come (LP x_3.toNatClampNeg) p0 p1 p2)) (fun o : Nat → Int32 => ([((wW x_3.toNatClampNeg), .inr (2, [.int (o 0), .int (o 1), .int (o 2), .int (o 3), .int (o 4), .int (o 5), .int (o 6), .int (o 7)]))] : va_W)) (fun o : Nat → Int32 => ([(adC, .inr (3, [.ref adC0, .ref adC1, .ref adW, .int x_2])), (adW, .inl (cL, 4, .inr (.inr (.inr (.inr (fun j => some (wW j))))))), ((wW x_3.toNatClampNeg), .inr (2, [.int (o 0), .int (o 1), .int (o 2), .int (o 3), .int (o 4), .int (o 5), .int (o 6), .int (o 7)]))] : va_W)) [2] [0, 1] (va_runV (As := [.int p0, .int p1, .int p2]) (rest := []) ⟨hx, hb, hml, hown, hts⟩ (c_X2_come l D cI cL (wW x_3.toNatClampNeg) (LP x_3.toNatClampNeg) p0 p1 p2 _) (cwV 3 hts (gv_ok (fun _ h => w_in h) wd_238 wd_235 wd_236 wd_237 wd_31) rfl rfl rfl (by decide +kernel) ⟨Nat.le_of_ble_eq_true rfl, Nat.le_of_ble_eq_true rfl⟩) (x_pv hN hK hP hD [2] rfl rfl (ci := 2) (q0 := 2) rfl rfl) rfl rfl hl.1 rfl (lv_room (Nat.le_of_ble_eq_true rfl)) dX3_addLooker_40 ⟨Nat.zero_le _, Nat.zero_le _⟩) hP hD hS hA rfl (fun _ => rfl) (fun _ => rfl) [(adC, .inr (3, [.ref adC0, .ref adC1, .ref adW, .int x_2])), (adW, .inl (cL, 4, .inr (.inr (.inr (.inr (fun j => some (wW j)))))))] rfl (fun _ => rfl) rfl (fun o_6 H locs eo_6 hP hD hS => ?_)
      have hP : va_P D vwCl ([(adC, .inr (3, [.ref adC0, .ref adC1, .ref adW, .int x_2])), (adW, .inl (cL, 4, .inr (.inr (.inr (.inr (fun j => some (wW j))))))), ((wW x_3.toNatClampNeg), .inr (2, [.int (o_6 0), .int (o_6 1), .int (o_6 2), .int (o_6 3), .int (o_6 4), .int (o_6 5), .int (o_6 6), .int (o_6 7)]))] ++ lr x_3.toNatClampNeg wW LP) _ := hP
      have hD : va_D A ([(adC, .inr (3, [.ref adC0, .ref adC1, .ref adW, .int x_2])), (adW, .inl (cL, 4, .inr (.inr (.inr (.inr (fun j => some (wW j))))))), ((wW x_3.toNatClampNeg), .inr (2, [.int (o_6 0), .int (o_6 1), .int (o_6 2), .int (o_6 3), .int (o_6 4), .int (o_6 5), .int (o_6 6), .int (o_6 7)]))] ++ lr x_3.toNatClampNeg wW LP) := hD
      obtain ⟨hP, hD⟩ := x_unpick (base := [(adC, .inr (3, [.ref adC0, .ref adC1, .ref adW, .int x_2])), (adW, .inl (cL, 4, .inr (.inr (.inr (.inr (fun j => some (wW j)))))))]) (w := wW) (L := LP) (k := x_3.toNatClampNeg) (f := o_6) (who_k c_5) hP hD
      have hP : va_P D vwCl [(adC, .inr (3, [.ref adC0, .ref adC1, .ref adW, .int x_2])), (adW, .inl (cL, 4, .inr (.inr (.inr (.inr (fun j => some (wW j))))))), (wW 0, ck ((va_up LP x_3.toNatClampNeg o_6) 0)), (wW 1, ck ((va_up LP x_3.toNatClampNeg o_6) 1)), (wW 2, ck ((va_up LP x_3.toNatClampNeg o_6) 2)), (wW 3, ck ((va_up LP x_3.toNatClampNeg o_6) 3))] _ := hP
      have hD : va_D A [(adC, .inr (3, [.ref adC0, .ref adC1, .ref adW, .int x_2])), (adW, .inl (cL, 4, .inr (.inr (.inr (.inr (fun j => some (wW j))))))), (wW 0, ck ((va_up LP x_3.toNatClampNeg o_6) 0)), (wW 1, ck ((va_up LP x_3.toNatClampNeg o_6) 1)), (wW 2, ck ((va_up LP x_3.toNatClampNeg o_6) 2)), (wW 3, ck ((va_up LP x_3.toNatClampNeg o_6) 3))] := hD
      have hF1 : F_X3_addLooker nC wW LP p0 p1 p2 = (x_2, (va_up LP x_3.toNatClampNeg o_6)) := (eX3_addLooker_2 nC wW LP p0 p1 p2 x_2 x_3 o_6 ex_2 ex_3 eo_6 c_1 c_5)
      exact xv_ret hx hb hr hlocks hP hS (congrArg (fun o : Int32 × (Nat → Nat → Int32) => ([(adC, .inr (3, [.ref adC0, .ref adC1, .ref adW, .int o.1])), (adW, .inl (cL, 4, .inr (.inr (.inr (.inr (fun j => some (wW j))))))), (wW 0, ck (o.2 0)), (wW 1, ck (o.2 1)), (wW 2, ck (o.2 2)), (wW 3, ck (o.2 3))] : va_W)) hF1).symm dX3_addLooker_43
    · obtain rfl := er_4.trans (who_f c_5)
      refine W.eq (g2 := F0 m 28 ls (.null :: [])) rfl ?_
      refine lv_astoreN (lv' := [(4, .null), (0, .ref adC), (1, .int p0), (2, .int p1), (3, .int p2)]) hx hb dX3_addLooker_28 hl (by decide) rfl (fun ls hl => ?_)
      refine lv_aloadN hx hb dX3_addLooker_30 (lv_at hl 0 rfl) ?_
      refine lv_ifnullN (tgt := 43) hx hb dX3_addLooker_32 (by decide) ?_
      have hF1 : F_X3_addLooker nC wW LP p0 p1 p2 = (x_2, LP) := (eX3_addLooker_3 nC wW LP p0 p1 p2 x_2 x_3 ex_2 ex_3 c_1 c_5)
      exact xv_ret hx hb hr hlocks hP hS (congrArg (fun o : Int32 × (Nat → Nat → Int32) => ([(adC, .inr (3, [.ref adC0, .ref adC1, .ref adW, .int o.1])), (adW, .inl (cL, 4, .inr (.inr (.inr (.inr (fun j => some (wW j))))))), (wW 0, ck (o.2 0)), (wW 1, ck (o.2 1)), (wW 2, ck (o.2 2)), (wW 3, ck (o.2 3))] : va_W)) hF1).symm dX3_addLooker_43

noncomputable def F_X3_cutOffLookers_L4 (nC : Int32) (wW : Nat → Nat) (LP : Nat → Nat → Int32) : Nat → Int32 → Int32 → Int32
  | 0, _, _ => default
  | n + 1, v1a, v2a =>
  if nC ≤ v2a then
  (v1a)
  else
  (if wkb nC v2a = true then
  (if ((LP v2a.toNatClampNeg) 7) = 0 then
  (let x_5 : Int32 := v2a + 1
  F_X3_cutOffLookers_L4 nC wW LP n v1a x_5)
  else
  (let x_6 : Int32 := v1a + 1
  let x_7 : Int32 := v2a + 1
  F_X3_cutOffLookers_L4 nC wW LP n x_6 x_7))
  else
  (let x_8 : Int32 := v2a + 1
  F_X3_cutOffLookers_L4 nC wW LP n v1a x_8))
noncomputable def F_X3_cutOffLookers (nC : Int32) (wW : Nat → Nat) (LP : Nat → Nat → Int32) : Int32 :=
  F_X3_cutOffLookers_L4 nC wW LP (((nC.toInt - (0 : Int32).toInt).toNat) + 1) 0 0
set_option maxRecDepth 100000 in
theorem eX3_cutOffLookers_1 (nC : Int32) (wW : Nat → Nat) (LP : Nat → Nat → Int32) (nf : Nat) (v1a : Int32) (v2a : Int32) (c_1 : nC ≤ v2a) : F_X3_cutOffLookers_L4 nC wW LP (nf + 1) v1a v2a = v1a := by exact (if_pos c_1).trans (rfl)
set_option maxRecDepth 100000 in
theorem eX3_cutOffLookers_2 (nC : Int32) (wW : Nat → Nat) (LP : Nat → Nat → Int32) (nf : Nat) (v1a : Int32) (v2a : Int32) (x_5 : Int32) (ex_5 : x_5 = v2a + 1) (c_1 : ¬ (nC ≤ v2a)) (c_3 : wkb nC v2a = true) (c_4 : ((LP v2a.toNatClampNeg) 7) = 0) : F_X3_cutOffLookers_L4 nC wW LP (nf + 1) v1a v2a = F_X3_cutOffLookers_L4 nC wW LP nf v1a x_5 := by subst ex_5; exact (if_neg c_1).trans ((if_pos c_3).trans ((if_pos c_4).trans (rfl)))
set_option maxRecDepth 100000 in
theorem eX3_cutOffLookers_3 (nC : Int32) (wW : Nat → Nat) (LP : Nat → Nat → Int32) (nf : Nat) (v1a : Int32) (v2a : Int32) (x_6 : Int32) (x_7 : Int32) (ex_6 : x_6 = v1a + 1) (ex_7 : x_7 = v2a + 1) (c_1 : ¬ (nC ≤ v2a)) (c_3 : wkb nC v2a = true) (c_4 : ¬ (((LP v2a.toNatClampNeg) 7) = 0)) : F_X3_cutOffLookers_L4 nC wW LP (nf + 1) v1a v2a = F_X3_cutOffLookers_L4 nC wW LP nf x_6 x_7 := by subst ex_6 ex_7; exact (if_neg c_1).trans ((if_pos c_3).trans ((if_neg c_4).trans (rfl)))
set_option maxRecDepth 100000 in
theorem eX3_cutOffLookers_4 (nC : Int32) (wW : Nat → Nat) (LP : Nat → Nat → Int32) (nf : Nat) (v1a : Int32) (v2a : Int32) (x_8 : Int32) (ex_8 : x_8 = v2a + 1) (c_1 : ¬ (nC ≤ v2a)) (c_3 : ¬ (wkb nC v2a = true)) : F_X3_cutOffLookers_L4 nC wW LP (nf + 1) v1a v2a = F_X3_cutOffLookers_L4 nC wW LP nf v1a x_8 := by subst ex_8; exact (if_neg c_1).trans ((if_neg c_3).trans (rfl))
set_option maxHeartbeats 4000000 in
set_option maxRecDepth 100000 in
theorem c_X3_cutOffLookers (l : Launch) (D : va_G) (cI cL : ClassId)   (adC : Nat) (adC0 : Nat) (adC1 : Nat) (adW : Nat) (nC : Int32) (wW : Nat → Nat) (LP : Nat → Nat → Int32)  : Xi l yX3_cutOffLookers (wm yX3_cutOffLookers cX3_cutOffLookers 4 (some .int)) (xR (1) (21)) D (tyA cI cL) [.ref adC] [(adC, .inr (3, [.ref adC0, .ref adC1, .ref adW, .int nC])), (adW, .inl (cL, 4, .inr (.inr (.inr (.inr (fun j => some (wW j))))))), (wW 0, ck (LP 0)), (wW 1, ck (LP 1)), (wW 2, ck (LP 2)), (wW 3, ck (LP 3))] [(adC, .inr (3, [.ref adC0, .ref adC1, .ref adW, .int nC])), (adW, .inl (cL, 4, .inr (.inr (.inr (.inr (fun j => some (wW j))))))), (wW 0, ck (LP 0)), (wW 1, ck (LP 1)), (wW 2, ck (LP 2)), (wW 3, ck (LP 3))] (F_X3_cutOffLookers nC wW LP) := by
  intro sz
  refine x_in (cc := cX3_cutOffLookers) (maxL := 4) (ret := (some .int)) (by decide) rfl (Nat.le_of_ble_eq_true rfl) (fun p e s m below meth c A ls hfix hr hlocks hN hK hP hAe hD hA hS hl => ?_)
  obtain ⟨hx, hb, hml, hown, hts⟩ := hfix
  rw [← hAe]
  clear hAe
  have hown : s.vm.findClass RX3 = some m.cls := hown
  have htL : ∀ w ∈ wsL_law, w.before ([.ref adC] : List Value).toArray s = true := fun w h => hts w (List.mem_cons_of_mem _ h)
  have hl : lv_has ls 4 [(0, .ref adC)] := hl
  refine lv_iconst (v := 0) hx hb dX3_cutOffLookers_0 (by decide) ?_
  refine lv_istore_n (lv' := [(1, .int 0), (0, .ref adC)]) hx hb dX3_cutOffLookers_1 rfl hl (by decide) rfl (fun ls hl => ?_)
  refine lv_iconst (v := 0) hx hb dX3_cutOffLookers_2 (by decide) ?_
  refine lv_istore_n (lv' := [(2, .int 0), (1, .int 0), (0, .ref adC)]) hx hb dX3_cutOffLookers_3 rfl hl (by decide) rfl (fun ls hl => ?_)
  have loop : ∀ (nf : Nat) (v1a : Int32) (v2a : Int32) (H : Heap) (locs : List Loc) (ls : Array Slot), (nC.toInt - v2a.toInt).toNat < nf → F_X3_cutOffLookers nC wW LP = F_X3_cutOffLookers_L4 nC wW LP nf v1a v2a → va_P D vwCl [(adC, .inr (3, [.ref adC0, .ref adC1, .ref adW, .int nC])), (adW, .inl (cL, 4, .inr (.inr (.inr (.inr (fun j => some (wW j))))))), (wW 0, ck (LP 0)), (wW 1, ck (LP 1)), (wW 2, ck (LP 2)), (wW 3, ck (LP 3))] H → va_D A [(adC, .inr (3, [.ref adC0, .ref adC1, .ref adW, .int nC])), (adW, .inl (cL, 4, .inr (.inr (.inr (.inr (fun j => some (wW j))))))), (wW 0, ck (LP 0)), (wW 1, ck (LP 1)), (wW 2, ck (LP 2)), (wW 3, ck (LP 3))] → va_S A s.heap H locs → lv_has ls 4 [(2, .int v2a), (1, .int v1a), (0, .ref adC)] → W p l e (xR (1) (21)) s m ([.ref adC] : List Value).toArray below meth c H locs 0 0 (MQ below (va_Qi (fun (r' : Int32) (_ : Unit) => r' = (F_X3_cutOffLookers nC wW LP)) (xE D [(adC, .inr (3, [.ref adC0, .ref adC1, .ref adW, .int nC])), (adW, .inl (cL, 4, .inr (.inr (.inr (.inr (fun j => some (wW j))))))), (wW 0, ck (LP 0)), (wW 1, ck (LP 1)), (wW 2, ck (LP 2)), (wW 3, ck (LP 3))]) A) ([.ref adC] : List Value).toArray s 0 0 A) (F0 m 4 ls []) := by
    intro nf
    induction nf with
    | zero => intro v1a v2a H locs ls hm; exact absurd hm (Nat.not_lt_zero _)
    | succ nf ih =>
      intro v1a v2a H locs ls hm hF hP hD hS hl
      refine lv_iload_n hx hb dX3_cutOffLookers_4 rfl (lv_at hl 0 rfl) ?_
      refine lv_aload_n hx hb dX3_cutOffLookers_5 rfl (lv_at hl 2 rfl) ?_
      refine va_get (D := D) (ci := 3) (v := .int nC) (C := RX3) (T := TX3) (N := 4) hx hb hts (fun _ h => w_in (inlX3 _ h)) hown hK hP 0 rfl rfl 3 (by decide) (htL _ wd_50) (fun _ h9 => h9) rfl dX3_cutOffLookers_6 ?_
      refine lv_icmp_ge (tgt := 38) hx hb dX3_cutOffLookers_9 (by decide) (fun c_1 => ?_) (fun c_1 => ?_)
      · refine lv_iload_n hx hb dX3_cutOffLookers_38 rfl (lv_at hl 1 rfl) ?_
        have hF1 : F_X3_cutOffLookers nC wW LP = v1a := hF.trans (eX3_cutOffLookers_1 nC wW LP nf v1a v2a c_1)
        exact xi_ret hx hb hr hlocks hP hS rfl (congrArg (fun o : Int32 => o) hF1).symm dX3_cutOffLookers_39
      · refine lv_aload_n hx hb dX3_cutOffLookers_12 rfl (lv_at hl 2 rfl) ?_
        refine lv_iload_n hx hb dX3_cutOffLookers_13 rfl (lv_at hl 0 rfl) ?_
        refine x_cq [0, 1] (va_runV (As := [.int v2a]) (rest := []) ⟨hx, hb, hml, hown, hts⟩ (c_X3_who l D cI cL adC adC0 adC1 adW nC wW v2a _) (cwV 1 hts (gv_ok (fun _ h => w_in h) wd_234 wd_231 wd_232 wd_233 wd_14) rfl rfl rfl (by decide +kernel) ⟨Nat.le_of_ble_eq_true rfl, Nat.le_of_ble_eq_true rfl⟩) (x_pv hN hK hP hD [0, 1] rfl rfl (ci := 3) (q0 := 0) rfl rfl) rfl rfl hl.1 rfl (lv_room (Nat.le_of_ble_eq_true rfl)) dX3_cutOffLookers_14 ⟨Nat.zero_le _, Nat.zero_le _⟩) hP hD hS hA rfl (fun r_2 H locs er_2 hP hS => ?_)
        by_cases c_3 : wkb nC v2a = true
        · obtain rfl := er_2.trans (who_t c_3)
          refine W.eq (g2 := F0 m 17 ls (.ref (wW v2a.toNatClampNeg) :: [])) rfl ?_
          refine lv_astore_n (lv' := [(3, .ref (wW v2a.toNatClampNeg)), (2, .int v2a), (1, .int v1a), (0, .ref adC)]) hx hb dX3_cutOffLookers_17 rfl hl (by decide) rfl (fun ls hl => ?_)
          refine lv_aload_n hx hb dX3_cutOffLookers_18 rfl (lv_at hl 0 rfl) ?_
          refine lv_ifnull hx hb dX3_cutOffLookers_19 ?_
          refine lv_aload_n hx hb dX3_cutOffLookers_22 rfl (lv_at hl 0 rfl) ?_
          obtain ⟨hP, hD⟩ := x_pick (base := [(adC, .inr (3, [.ref adC0, .ref adC1, .ref adW, .int nC])), (adW, .inl (cL, 4, .inr (.inr (.inr (.inr (fun j => some (wW j)))))))]) (w := wW) (L := LP) (k := v2a.toNatClampNeg) (who_k c_3) hP hD
          have hP : va_P D vwCl ([(adC, .inr (3, [.ref adC0, .ref adC1, .ref adW, .int nC])), (adW, .inl (cL, 4, .inr (.inr (.inr (.inr (fun j => some (wW j))))))), ((wW v2a.toNatClampNeg), .inr (2, [.int ((LP v2a.toNatClampNeg) 0), .int ((LP v2a.toNatClampNeg) 1), .int ((LP v2a.toNatClampNeg) 2), .int ((LP v2a.toNatClampNeg) 3), .int ((LP v2a.toNatClampNeg) 4), .int ((LP v2a.toNatClampNeg) 5), .int ((LP v2a.toNatClampNeg) 6), .int ((LP v2a.toNatClampNeg) 7)]))] ++ lr v2a.toNatClampNeg wW LP) _ := hP
          have hD : va_D A ([(adC, .inr (3, [.ref adC0, .ref adC1, .ref adW, .int nC])), (adW, .inl (cL, 4, .inr (.inr (.inr (.inr (fun j => some (wW j))))))), ((wW v2a.toNatClampNeg), .inr (2, [.int ((LP v2a.toNatClampNeg) 0), .int ((LP v2a.toNatClampNeg) 1), .int ((LP v2a.toNatClampNeg) 2), .int ((LP v2a.toNatClampNeg) 3), .int ((LP v2a.toNatClampNeg) 4), .int ((LP v2a.toNatClampNeg) 5), .int ((LP v2a.toNatClampNeg) 6), .int ((LP v2a.toNatClampNeg) 7)]))] ++ lr v2a.toNatClampNeg wW LP) := hD
          refine va_getN (D := D) (ci := 2) (v := .int ((LP v2a.toNatClampNeg) 7)) (C := RX2) (T := TX2) (N := 8) hx hb hts (fun _ h => w_in (inlX2 _ h)) hown hK hP 2 rfl rfl 7 (by decide) (nf_OverTheShoulder_Scene_44 hN) (fun _ h9 => h9) rfl dX3_cutOffLookers_23 ?_
          refine lv_if_eq (tgt := 32) hx hb dX3_cutOffLookers_26 (by decide) (fun c_4 => ?_) (fun c_4 => ?_)
          · obtain ⟨x_5, ex_5⟩ : ∃ y : Int32, y = v2a + 1 := ⟨_, rfl⟩
            refine lv_iinc (v := x_5) (lv' := [(2, .int x_5), (3, .ref (wW v2a.toNatClampNeg)), (1, .int v1a), (0, .ref adC)]) hx hb dX3_cutOffLookers_32 hl (k := 1) rfl (by rw [ex_5]; rfl) (by decide) rfl (fun ls hl => ?_)
            refine lv_goto (tgt := 4) hx hb dX3_cutOffLookers_35 (by decide) ?_
            obtain ⟨hP, hD⟩ := x_unpick0 (base := [(adC, .inr (3, [.ref adC0, .ref adC1, .ref adW, .int nC])), (adW, .inl (cL, 4, .inr (.inr (.inr (.inr (fun j => some (wW j)))))))]) (w := wW) (L := LP) (k := v2a.toNatClampNeg) (who_k c_3) hP hD
            have hP : va_P D vwCl [(adC, .inr (3, [.ref adC0, .ref adC1, .ref adW, .int nC])), (adW, .inl (cL, 4, .inr (.inr (.inr (.inr (fun j => some (wW j))))))), (wW 0, ck (LP 0)), (wW 1, ck (LP 1)), (wW 2, ck (LP 2)), (wW 3, ck (LP 3))] _ := hP
            have hD : va_D A [(adC, .inr (3, [.ref adC0, .ref adC1, .ref adW, .int nC])), (adW, .inl (cL, 4, .inr (.inr (.inr (.inr (fun j => some (wW j))))))), (wW 0, ck (LP 0)), (wW 1, ck (LP 1)), (wW 2, ck (LP 2)), (wW 3, ck (LP 3))] := hD
            exact ih v1a x_5 _ _ _ (by rw [ex_5]; first | exact x_up (by assumption) hm | exact x_up' (by assumption) hm | exact x_up c_1 hm | omega) (hF.trans (eX3_cutOffLookers_2 nC wW LP nf v1a v2a x_5 ex_5 c_1 c_3 c_4)) hP hD hS (lv_sub hl [0, 2, 3] rfl)
          · obtain ⟨x_6, ex_6⟩ : ∃ y : Int32, y = v1a + 1 := ⟨_, rfl⟩
            refine lv_iinc (v := x_6) (lv' := [(1, .int x_6), (3, .ref (wW v2a.toNatClampNeg)), (2, .int v2a), (0, .ref adC)]) hx hb dX3_cutOffLookers_29 hl (k := 2) rfl (by rw [ex_6]; rfl) (by decide) rfl (fun ls hl => ?_)
            obtain ⟨x_7, ex_7⟩ : ∃ y : Int32, y = v2a + 1 := ⟨_, rfl⟩
            refine lv_iinc (v := x_7) (lv' := [(2, .int x_7), (1, .int x_6), (3, .ref (wW v2a.toNatClampNeg)), (0, .ref adC)]) hx hb dX3_cutOffLookers_32 hl (k := 2) rfl (by rw [ex_7]; rfl) (by decide) rfl (fun ls hl => ?_)
            refine lv_goto (tgt := 4) hx hb dX3_cutOffLookers_35 (by decide) ?_
            obtain ⟨hP, hD⟩ := x_unpick0 (base := [(adC, .inr (3, [.ref adC0, .ref adC1, .ref adW, .int nC])), (adW, .inl (cL, 4, .inr (.inr (.inr (.inr (fun j => some (wW j)))))))]) (w := wW) (L := LP) (k := v2a.toNatClampNeg) (who_k c_3) hP hD
            have hP : va_P D vwCl [(adC, .inr (3, [.ref adC0, .ref adC1, .ref adW, .int nC])), (adW, .inl (cL, 4, .inr (.inr (.inr (.inr (fun j => some (wW j))))))), (wW 0, ck (LP 0)), (wW 1, ck (LP 1)), (wW 2, ck (LP 2)), (wW 3, ck (LP 3))] _ := hP
            have hD : va_D A [(adC, .inr (3, [.ref adC0, .ref adC1, .ref adW, .int nC])), (adW, .inl (cL, 4, .inr (.inr (.inr (.inr (fun j => some (wW j))))))), (wW 0, ck (LP 0)), (wW 1, ck (LP 1)), (wW 2, ck (LP 2)), (wW 3, ck (LP 3))] := hD
            exact ih x_6 x_7 _ _ _ (by rw [ex_7]; first | exact x_up (by assumption) hm | exact x_up' (by assumption) hm | exact x_up c_1 hm | omega) (hF.trans (eX3_cutOffLookers_3 nC wW LP nf v1a v2a x_6 x_7 ex_6 ex_7 c_1 c_3 c_4)) hP hD hS (lv_sub hl [0, 1, 3] rfl)
        · obtain rfl := er_2.trans (who_f c_3)
          refine W.eq (g2 := F0 m 17 ls (.null :: [])) rfl ?_
          refine lv_astore_nN (lv' := [(3, .null), (2, .int v2a), (1, .int v1a), (0, .ref adC)]) hx hb dX3_cutOffLookers_17 rfl hl (by decide) rfl (fun ls hl => ?_)
          refine lv_aload_nN hx hb dX3_cutOffLookers_18 rfl (lv_at hl 0 rfl) ?_
          refine lv_ifnullN (tgt := 32) hx hb dX3_cutOffLookers_19 (by decide) ?_
          obtain ⟨x_8, ex_8⟩ : ∃ y : Int32, y = v2a + 1 := ⟨_, rfl⟩
          refine lv_iinc (v := x_8) (lv' := [(2, .int x_8), (3, .null), (1, .int v1a), (0, .ref adC)]) hx hb dX3_cutOffLookers_32 hl (k := 1) rfl (by rw [ex_8]; rfl) (by decide) rfl (fun ls hl => ?_)
          refine lv_goto (tgt := 4) hx hb dX3_cutOffLookers_35 (by decide) ?_
          exact ih v1a x_8 _ _ _ (by rw [ex_8]; first | exact x_up (by assumption) hm | exact x_up' (by assumption) hm | exact x_up c_1 hm | omega) (hF.trans (eX3_cutOffLookers_4 nC wW LP nf v1a v2a x_8 ex_8 c_1 c_3)) hP hD hS (lv_sub hl [0, 2, 3] rfl)
  exact loop (((nC.toInt - (0 : Int32).toInt).toNat) + 1) 0 0 _ _ _ (Nat.lt_succ_self _) rfl hP hD hS hl

noncomputable def F_X1_bring (fN : Nat → Int32) (nN : Int32) (nC : Int32) (wW : Nat → Nat) (qS : Nat → Nat → Int32) (nS : Int32) (gB : Nat → Int32) (LP : Nat → Nat → Int32) (p0 : Int32) : Int32 × (Nat → Nat → Int32) × Int32 × (Nat → Int32) × (Nat → Nat → Int32) :=
  let r_1 : Int32 := (F_X1_letterAt fN nN p0)
  if r_1 = 104 then
  (let x_3 : Int32 := (p0 + 1)
  let r_4 : Int32 := (F_X1_digitAt fN nN x_3)
  let x_5 : Int32 := (p0 + 2)
  let r_6 : Int32 := (F_X1_digitAt fN nN x_5)
  let x_7 : Int32 := (p0 + 3)
  let r_8 : Int32 := (F_X1_numberAt fN nN x_7)
  (nC, qS, nS, (upd (upd (upd gB 0 r_4) 1 r_6) 2 r_8), LP))
  else
  (if r_1 = 108 then
  (let x_10 : Int32 := (p0 + 1)
  let r_11 : Int32 := (F_X1_digitAt fN nN x_10)
  let x_12 : Int32 := (p0 + 2)
  let r_13 : Int32 := (F_X1_digitAt fN nN x_12)
  let x_14 : Int32 := (p0 + 3)
  let r_15 : Int32 := (F_X1_digitAt fN nN x_14)
  let x_16 : Int32 := (p0 + 4)
  let r_17 : Int32 := (F_X1_digitAt fN nN x_16)
  let o_18 : (Nat → Nat → Int32) × Int32 := (F_X5_add qS nS r_11 r_13 r_15 r_17)
  (nC, o_18.1, o_18.2, gB, LP))
  else
  (if r_1 = 116 then
  (let x_20 : Int32 := (p0 + 1)
  let r_21 : Int32 := (F_X1_tiltAt fN nN x_20)
  (nC, qS, nS, (upd gB 3 r_21), LP))
  else
  (let x_22 : Int32 := (p0 + 1)
  let r_23 : Int32 := (F_X1_digitAt fN nN x_22)
  let x_24 : Int32 := (p0 + 2)
  let r_25 : Int32 := (F_X1_digitAt fN nN x_24)
  let x_26 : Int32 := (p0 + 3)
  let r_27 : Int32 := (F_X1_numberAt fN nN x_26)
  let o_28 : Int32 × (Nat → Nat → Int32) := (F_X3_addLooker nC wW LP r_23 r_25 r_27)
  (o_28.1, qS, nS, gB, o_28.2))))
set_option maxRecDepth 100000 in
theorem eX1_bring_1 (fN : Nat → Int32) (nN : Int32) (nC : Int32) (wW : Nat → Nat) (qS : Nat → Nat → Int32) (nS : Int32) (gB : Nat → Int32) (LP : Nat → Nat → Int32) (p0 : Int32) (r_1 : Int32) (x_3 : Int32) (r_4 : Int32) (x_5 : Int32) (r_6 : Int32) (x_7 : Int32) (r_8 : Int32) (er_1 : r_1 = (F_X1_letterAt fN nN p0)) (ex_3 : x_3 = (p0 + 1)) (er_4 : r_4 = (F_X1_digitAt fN nN x_3)) (ex_5 : x_5 = (p0 + 2)) (er_6 : r_6 = (F_X1_digitAt fN nN x_5)) (ex_7 : x_7 = (p0 + 3)) (er_8 : r_8 = (F_X1_numberAt fN nN x_7)) (c_2 : r_1 = 104) : F_X1_bring fN nN nC wW qS nS gB LP p0 = (nC, qS, nS, (upd (upd (upd gB 0 r_4) 1 r_6) 2 r_8), LP) := by subst er_1 ex_3 er_4 ex_5 er_6 ex_7 er_8; exact (if_pos c_2).trans (rfl)
set_option maxRecDepth 100000 in
theorem eX1_bring_2 (fN : Nat → Int32) (nN : Int32) (nC : Int32) (wW : Nat → Nat) (qS : Nat → Nat → Int32) (nS : Int32) (gB : Nat → Int32) (LP : Nat → Nat → Int32) (p0 : Int32) (r_1 : Int32) (x_10 : Int32) (r_11 : Int32) (x_12 : Int32) (r_13 : Int32) (x_14 : Int32) (r_15 : Int32) (x_16 : Int32) (r_17 : Int32) (o_18 : (Nat → Nat → Int32) × Int32) (er_1 : r_1 = (F_X1_letterAt fN nN p0)) (ex_10 : x_10 = (p0 + 1)) (er_11 : r_11 = (F_X1_digitAt fN nN x_10)) (ex_12 : x_12 = (p0 + 2)) (er_13 : r_13 = (F_X1_digitAt fN nN x_12)) (ex_14 : x_14 = (p0 + 3)) (er_15 : r_15 = (F_X1_digitAt fN nN x_14)) (ex_16 : x_16 = (p0 + 4)) (er_17 : r_17 = (F_X1_digitAt fN nN x_16)) (eo_18 : o_18 = (F_X5_add qS nS r_11 r_13 r_15 r_17)) (c_2 : ¬ (r_1 = 104)) (c_9 : r_1 = 108) : F_X1_bring fN nN nC wW qS nS gB LP p0 = (nC, o_18.1, o_18.2, gB, LP) := by subst er_1 ex_10 er_11 ex_12 er_13 ex_14 er_15 ex_16 er_17 eo_18; exact (if_neg c_2).trans ((if_pos c_9).trans (rfl))
set_option maxRecDepth 100000 in
theorem eX1_bring_3 (fN : Nat → Int32) (nN : Int32) (nC : Int32) (wW : Nat → Nat) (qS : Nat → Nat → Int32) (nS : Int32) (gB : Nat → Int32) (LP : Nat → Nat → Int32) (p0 : Int32) (r_1 : Int32) (x_20 : Int32) (r_21 : Int32) (er_1 : r_1 = (F_X1_letterAt fN nN p0)) (ex_20 : x_20 = (p0 + 1)) (er_21 : r_21 = (F_X1_tiltAt fN nN x_20)) (c_2 : ¬ (r_1 = 104)) (c_9 : ¬ (r_1 = 108)) (c_19 : r_1 = 116) : F_X1_bring fN nN nC wW qS nS gB LP p0 = (nC, qS, nS, (upd gB 3 r_21), LP) := by subst er_1 ex_20 er_21; exact (if_neg c_2).trans ((if_neg c_9).trans ((if_pos c_19).trans (rfl)))
set_option maxRecDepth 100000 in
theorem eX1_bring_4 (fN : Nat → Int32) (nN : Int32) (nC : Int32) (wW : Nat → Nat) (qS : Nat → Nat → Int32) (nS : Int32) (gB : Nat → Int32) (LP : Nat → Nat → Int32) (p0 : Int32) (r_1 : Int32) (x_22 : Int32) (r_23 : Int32) (x_24 : Int32) (r_25 : Int32) (x_26 : Int32) (r_27 : Int32) (o_28 : Int32 × (Nat → Nat → Int32)) (er_1 : r_1 = (F_X1_letterAt fN nN p0)) (ex_22 : x_22 = (p0 + 1)) (er_23 : r_23 = (F_X1_digitAt fN nN x_22)) (ex_24 : x_24 = (p0 + 2)) (er_25 : r_25 = (F_X1_digitAt fN nN x_24)) (ex_26 : x_26 = (p0 + 3)) (er_27 : r_27 = (F_X1_numberAt fN nN x_26)) (eo_28 : o_28 = (F_X3_addLooker nC wW LP r_23 r_25 r_27)) (c_2 : ¬ (r_1 = 104)) (c_9 : ¬ (r_1 = 108)) (c_19 : ¬ (r_1 = 116)) : F_X1_bring fN nN nC wW qS nS gB LP p0 = (o_28.1, qS, nS, gB, o_28.2) := by subst er_1 ex_22 er_23 ex_24 er_25 ex_26 er_27 eo_28; exact (if_neg c_2).trans ((if_neg c_9).trans ((if_neg c_19).trans (rfl)))
set_option maxHeartbeats 4000000 in
set_option maxRecDepth 100000 in
theorem c_X1_bring (l : Launch) (D : va_G) (cI cL : ClassId)   (adN : Nat) (adNa : Nat) (adC : Nat) (adW : Nat) (adS : Nat) (rS : Nat → Nat) (adB : Nat) (fN : Nat → Int32) (nN : Int32) (nC : Int32) (wW : Nat → Nat) (qS : Nat → Nat → Int32) (nS : Int32) (gB : Nat → Int32) (LP : Nat → Nat → Int32) (p0 : Int32)  : Xv l yX1_bring (wm yX1_bring cX1_bring 3 none) (xR (3) (67)) D (tyA cI cL) [.ref adN, .ref adC, .int p0] [(adN, .inr (1, [.ref adNa, .int nN])), (adNa, .inl (cI, 96, .inl fN)), (adC, .inr (3, [.ref adS, .ref adB, .ref adW, .int nC])), (adW, .inl (cL, 4, .inr (.inr (.inr (.inr (fun j => some (wW j))))))), (adS, .inr (5, [.ref (rS 0), .ref (rS 1), .ref (rS 2), .ref (rS 3), .int nS])), ((rS 0), .inl (cI, 8, .inl (qS 0))), ((rS 1), .inl (cI, 8, .inl (qS 1))), ((rS 2), .inl (cI, 8, .inl (qS 2))), ((rS 3), .inl (cI, 8, .inl (qS 3))), (adB, .inr (0, [.int (gB 0), .int (gB 1), .int (gB 2), .int (gB 3), .int (gB 4)])), (wW 0, ck (LP 0)), (wW 1, ck (LP 1)), (wW 2, ck (LP 2)), (wW 3, ck (LP 3))] [(adN, .inr (1, [.ref adNa, .int nN])), (adNa, .inl (cI, 96, .inl fN)), (adC, .inr (3, [.ref adS, .ref adB, .ref adW, .int (F_X1_bring fN nN nC wW qS nS gB LP p0).1])), (adW, .inl (cL, 4, .inr (.inr (.inr (.inr (fun j => some (wW j))))))), (adS, .inr (5, [.ref (rS 0), .ref (rS 1), .ref (rS 2), .ref (rS 3), .int (F_X1_bring fN nN nC wW qS nS gB LP p0).2.2.1])), ((rS 0), .inl (cI, 8, .inl ((F_X1_bring fN nN nC wW qS nS gB LP p0).2.1 0))), ((rS 1), .inl (cI, 8, .inl ((F_X1_bring fN nN nC wW qS nS gB LP p0).2.1 1))), ((rS 2), .inl (cI, 8, .inl ((F_X1_bring fN nN nC wW qS nS gB LP p0).2.1 2))), ((rS 3), .inl (cI, 8, .inl ((F_X1_bring fN nN nC wW qS nS gB LP p0).2.1 3))), (adB, .inr (0, [.int ((F_X1_bring fN nN nC wW qS nS gB LP p0).2.2.2.1 0), .int ((F_X1_bring fN nN nC wW qS nS gB LP p0).2.2.2.1 1), .int ((F_X1_bring fN nN nC wW qS nS gB LP p0).2.2.2.1 2), .int ((F_X1_bring fN nN nC wW qS nS gB LP p0).2.2.2.1 3), .int ((F_X1_bring fN nN nC wW qS nS gB LP p0).2.2.2.1 4)])), (wW 0, ck ((F_X1_bring fN nN nC wW qS nS gB LP p0).2.2.2.2 0)), (wW 1, ck ((F_X1_bring fN nN nC wW qS nS gB LP p0).2.2.2.2 1)), (wW 2, ck ((F_X1_bring fN nN nC wW qS nS gB LP p0).2.2.2.2 2)), (wW 3, ck ((F_X1_bring fN nN nC wW qS nS gB LP p0).2.2.2.2 3))] := by
  intro sz
  refine x_in (cc := cX1_bring) (maxL := 3) (ret := none) (by decide) rfl (Nat.le_of_ble_eq_true rfl) (fun p e s m below meth c A ls hfix hr hlocks hN hK hP hAe hD hA hS hl => ?_)
  obtain ⟨hx, hb, hml, hown, hts⟩ := hfix
  rw [← hAe]
  clear hAe
  have hown : s.vm.findClass RX1 = some m.cls := hown
  have htL : ∀ w ∈ wsL_law, w.before ([.ref adN, .ref adC, .int p0] : List Value).toArray s = true := fun w h => hts w (List.mem_cons_of_mem _ h)
  have hl : lv_has ls 3 [(0, .ref adN), (1, .ref adC), (2, .int p0)] := hl
  refine lv_aload_n hx hb dX1_bring_0 rfl (lv_at hl 0 rfl) ?_
  refine lv_iload_n hx hb dX1_bring_1 rfl (lv_at hl 2 rfl) ?_
  refine x_ci [0, 1] (va_runV (As := [.int p0]) (rest := []) ⟨hx, hb, hml, hown, hts⟩ (c_X1_letterAt l D cI cL adN adNa fN nN p0 _) (cwV 1 hts (gv_ok (fun _ h => w_in h) wd_183 wd_180 wd_181 wd_182 wd_19) rfl rfl rfl (by decide +kernel) ⟨Nat.le_of_ble_eq_true rfl, Nat.le_of_ble_eq_true rfl⟩) (x_pv hN hK hP hD [0, 1] rfl rfl (ci := 1) (q0 := 0) rfl rfl) rfl rfl hl.1 rfl (lv_room (Nat.le_of_ble_eq_true rfl)) dX1_bring_2 ⟨Nat.zero_le _, Nat.zero_le _⟩) hP hD hS hA rfl (fun r_1 H locs er_1 hP hS => ?_)
  by_cases c_2 : r_1 = 104
  · refine lv_lookup (off := 73) (tgt := 78) hx hb dX1_bring_5 (by decide) (by rw [c_2]; rfl) (by decide) ?_
    refine lv_aload_n hx hb dX1_bring_78 rfl (lv_at hl 1 rfl) ?_
    refine va_getN (D := D) (ci := 3) (v := .ref adB) (C := RX3) (T := TX3) (N := 4) hx hb hts (fun _ h => w_in (inlX3 _ h)) hown hK hP 2 rfl rfl 1 (by decide) (nf_OverTheShoulder_Letters_57 hN) (fun _ h9 => h9) rfl dX1_bring_79 ?_
    refine lv_aload_n hx hb dX1_bring_82 rfl (lv_at hl 0 rfl) ?_
    refine lv_iload_n hx hb dX1_bring_83 rfl (lv_at hl 2 rfl) ?_
    refine lv_iconst (v := 1) hx hb dX1_bring_84 (by decide) ?_
    refine lv_iadd hx hb dX1_bring_85 ?_
    refine lv_topi (fun x_3 ex_3 => ?_)
    refine x_ci [0, 1] (va_runV (As := [.int x_3]) (rest := [.ref adB]) ⟨hx, hb, hml, hown, hts⟩ (c_X1_digitAt l D cI cL adN adNa fN nN x_3 _) (cwV 1 hts (gv_ok (fun _ h => w_in h) wd_206 wd_203 wd_204 wd_205 wd_19) rfl rfl rfl (by decide +kernel) ⟨Nat.le_of_ble_eq_true rfl, Nat.le_of_ble_eq_true rfl⟩) (x_pv hN hK hP hD [0, 1] rfl rfl (ci := 1) (q0 := 0) rfl rfl) rfl rfl hl.1 rfl (lv_room (Nat.le_of_ble_eq_true rfl)) dX1_bring_86 ⟨Nat.zero_le _, Nat.zero_le _⟩) hP hD hS hA rfl (fun r_4 H locs er_4 hP hS => ?_)
    refine va_putN (D := D) (ci := 0) (v := .int r_4) (ty := .int) (C := RX0) (T := TX0) (N := 5) hx hb hts (fun _ h => w_in (inlX0 _ h)) tyX0 tyX0_ok nmX0 hown hK hP hD hS 9 rfl rfl 0 (by decide) (nf_OverTheShoulder_Letters_61 hN) (fun _ h9 => h9) rfl (by decide +kernel) rfl rfl (Nat.le_of_ble_eq_true rfl) dX1_bring_89 (fun H locs hP hD hS => ?_)
    have hP : va_P D vwCl [(adN, .inr (1, [.ref adNa, .int nN])), (adNa, .inl (cI, 96, .inl fN)), (adC, .inr (3, [.ref adS, .ref adB, .ref adW, .int nC])), (adW, .inl (cL, 4, .inr (.inr (.inr (.inr (fun j => some (wW j))))))), (adS, .inr (5, [.ref (rS 0), .ref (rS 1), .ref (rS 2), .ref (rS 3), .int nS])), ((rS 0), .inl (cI, 8, .inl (qS 0))), ((rS 1), .inl (cI, 8, .inl (qS 1))), ((rS 2), .inl (cI, 8, .inl (qS 2))), ((rS 3), .inl (cI, 8, .inl (qS 3))), (adB, .inr (0, [.int r_4, .int (gB 1), .int (gB 2), .int (gB 3), .int (gB 4)])), (wW 0, ck (LP 0)), (wW 1, ck (LP 1)), (wW 2, ck (LP 2)), (wW 3, ck (LP 3))] _ := hP
    have hD : va_D A [(adN, .inr (1, [.ref adNa, .int nN])), (adNa, .inl (cI, 96, .inl fN)), (adC, .inr (3, [.ref adS, .ref adB, .ref adW, .int nC])), (adW, .inl (cL, 4, .inr (.inr (.inr (.inr (fun j => some (wW j))))))), (adS, .inr (5, [.ref (rS 0), .ref (rS 1), .ref (rS 2), .ref (rS 3), .int nS])), ((rS 0), .inl (cI, 8, .inl (qS 0))), ((rS 1), .inl (cI, 8, .inl (qS 1))), ((rS 2), .inl (cI, 8, .inl (qS 2))), ((rS 3), .inl (cI, 8, .inl (qS 3))), (adB, .inr (0, [.int r_4, .int (gB 1), .int (gB 2), .int (gB 3), .int (gB 4)])), (wW 0, ck (LP 0)), (wW 1, ck (LP 1)), (wW 2, ck (LP 2)), (wW 3, ck (LP 3))] := hD
    refine lv_aload_n hx hb dX1_bring_92 rfl (lv_at hl 1 rfl) ?_
    refine va_getN (D := D) (ci := 3) (v := .ref adB) (C := RX3) (T := TX3) (N := 4) hx hb hts (fun _ h => w_in (inlX3 _ h)) hown hK hP 2 rfl rfl 1 (by decide) (nf_OverTheShoulder_Letters_57 hN) (fun _ h9 => h9) rfl dX1_bring_93 ?_
    refine lv_aload_n hx hb dX1_bring_96 rfl (lv_at hl 0 rfl) ?_
    refine lv_iload_n hx hb dX1_bring_97 rfl (lv_at hl 2 rfl) ?_
    refine lv_iconst (v := 2) hx hb dX1_bring_98 (by decide) ?_
    refine lv_iadd hx hb dX1_bring_99 ?_
    refine lv_topi (fun x_5 ex_5 => ?_)
    refine x_ci [0, 1] (va_runV (As := [.int x_5]) (rest := [.ref adB]) ⟨hx, hb, hml, hown, hts⟩ (c_X1_digitAt l D cI cL adN adNa fN nN x_5 _) (cwV 1 hts (gv_ok (fun _ h => w_in h) wd_206 wd_203 wd_204 wd_205 wd_19) rfl rfl rfl (by decide +kernel) ⟨Nat.le_of_ble_eq_true rfl, Nat.le_of_ble_eq_true rfl⟩) (x_pv hN hK hP hD [0, 1] rfl rfl (ci := 1) (q0 := 0) rfl rfl) rfl rfl hl.1 rfl (lv_room (Nat.le_of_ble_eq_true rfl)) dX1_bring_100 ⟨Nat.zero_le _, Nat.zero_le _⟩) hP hD hS hA rfl (fun r_6 H locs er_6 hP hS => ?_)
    refine va_putN (D := D) (ci := 0) (v := .int r_6) (ty := .int) (C := RX0) (T := TX0) (N := 5) hx hb hts (fun _ h => w_in (inlX0 _ h)) tyX0 tyX0_ok nmX0 hown hK hP hD hS 9 rfl rfl 1 (by decide) (nf_OverTheShoulder_Letters_66 hN) (fun _ h9 => h9) rfl (by decide +kernel) rfl rfl (Nat.le_of_ble_eq_true rfl) dX1_bring_103 (fun H locs hP hD hS => ?_)
    have hP : va_P D vwCl [(adN, .inr (1, [.ref adNa, .int nN])), (adNa, .inl (cI, 96, .inl fN)), (adC, .inr (3, [.ref adS, .ref adB, .ref adW, .int nC])), (adW, .inl (cL, 4, .inr (.inr (.inr (.inr (fun j => some (wW j))))))), (adS, .inr (5, [.ref (rS 0), .ref (rS 1), .ref (rS 2), .ref (rS 3), .int nS])), ((rS 0), .inl (cI, 8, .inl (qS 0))), ((rS 1), .inl (cI, 8, .inl (qS 1))), ((rS 2), .inl (cI, 8, .inl (qS 2))), ((rS 3), .inl (cI, 8, .inl (qS 3))), (adB, .inr (0, [.int r_4, .int r_6, .int (gB 2), .int (gB 3), .int (gB 4)])), (wW 0, ck (LP 0)), (wW 1, ck (LP 1)), (wW 2, ck (LP 2)), (wW 3, ck (LP 3))] _ := hP
    have hD : va_D A [(adN, .inr (1, [.ref adNa, .int nN])), (adNa, .inl (cI, 96, .inl fN)), (adC, .inr (3, [.ref adS, .ref adB, .ref adW, .int nC])), (adW, .inl (cL, 4, .inr (.inr (.inr (.inr (fun j => some (wW j))))))), (adS, .inr (5, [.ref (rS 0), .ref (rS 1), .ref (rS 2), .ref (rS 3), .int nS])), ((rS 0), .inl (cI, 8, .inl (qS 0))), ((rS 1), .inl (cI, 8, .inl (qS 1))), ((rS 2), .inl (cI, 8, .inl (qS 2))), ((rS 3), .inl (cI, 8, .inl (qS 3))), (adB, .inr (0, [.int r_4, .int r_6, .int (gB 2), .int (gB 3), .int (gB 4)])), (wW 0, ck (LP 0)), (wW 1, ck (LP 1)), (wW 2, ck (LP 2)), (wW 3, ck (LP 3))] := hD
    refine lv_aload_n hx hb dX1_bring_106 rfl (lv_at hl 1 rfl) ?_
    refine va_getN (D := D) (ci := 3) (v := .ref adB) (C := RX3) (T := TX3) (N := 4) hx hb hts (fun _ h => w_in (inlX3 _ h)) hown hK hP 2 rfl rfl 1 (by decide) (nf_OverTheShoulder_Letters_57 hN) (fun _ h9 => h9) rfl dX1_bring_107 ?_
    refine lv_aload_n hx hb dX1_bring_110 rfl (lv_at hl 0 rfl) ?_
    refine lv_iload_n hx hb dX1_bring_111 rfl (lv_at hl 2 rfl) ?_
    refine lv_iconst (v := 3) hx hb dX1_bring_112 (by decide) ?_
    refine lv_iadd hx hb dX1_bring_113 ?_
    refine lv_topi (fun x_7 ex_7 => ?_)
    refine x_ci [0, 1] (va_runV (As := [.int x_7]) (rest := [.ref adB]) ⟨hx, hb, hml, hown, hts⟩ (c_X1_numberAt l D cI cL adN adNa fN nN x_7 _) (cwV 1 hts (gv_ok (fun _ h => w_in h) wd_210 wd_207 wd_208 wd_209 wd_19) rfl rfl rfl (by decide +kernel) ⟨Nat.le_of_ble_eq_true rfl, Nat.le_of_ble_eq_true rfl⟩) (x_pv hN hK hP hD [0, 1] rfl rfl (ci := 1) (q0 := 0) rfl rfl) rfl rfl hl.1 rfl (lv_room (Nat.le_of_ble_eq_true rfl)) dX1_bring_114 ⟨Nat.zero_le _, Nat.zero_le _⟩) hP hD hS hA rfl (fun r_8 H locs er_8 hP hS => ?_)
    refine va_putN (D := D) (ci := 0) (v := .int r_8) (ty := .int) (C := RX0) (T := TX0) (N := 5) hx hb hts (fun _ h => w_in (inlX0 _ h)) tyX0 tyX0_ok nmX0 hown hK hP hD hS 9 rfl rfl 2 (by decide) (nf_OverTheShoulder_Letters_72 hN) (fun _ h9 => h9) rfl (by decide +kernel) rfl rfl (Nat.le_of_ble_eq_true rfl) dX1_bring_117 (fun H locs hP hD hS => ?_)
    have hP : va_P D vwCl [(adN, .inr (1, [.ref adNa, .int nN])), (adNa, .inl (cI, 96, .inl fN)), (adC, .inr (3, [.ref adS, .ref adB, .ref adW, .int nC])), (adW, .inl (cL, 4, .inr (.inr (.inr (.inr (fun j => some (wW j))))))), (adS, .inr (5, [.ref (rS 0), .ref (rS 1), .ref (rS 2), .ref (rS 3), .int nS])), ((rS 0), .inl (cI, 8, .inl (qS 0))), ((rS 1), .inl (cI, 8, .inl (qS 1))), ((rS 2), .inl (cI, 8, .inl (qS 2))), ((rS 3), .inl (cI, 8, .inl (qS 3))), (adB, .inr (0, [.int r_4, .int r_6, .int r_8, .int (gB 3), .int (gB 4)])), (wW 0, ck (LP 0)), (wW 1, ck (LP 1)), (wW 2, ck (LP 2)), (wW 3, ck (LP 3))] _ := hP
    have hD : va_D A [(adN, .inr (1, [.ref adNa, .int nN])), (adNa, .inl (cI, 96, .inl fN)), (adC, .inr (3, [.ref adS, .ref adB, .ref adW, .int nC])), (adW, .inl (cL, 4, .inr (.inr (.inr (.inr (fun j => some (wW j))))))), (adS, .inr (5, [.ref (rS 0), .ref (rS 1), .ref (rS 2), .ref (rS 3), .int nS])), ((rS 0), .inl (cI, 8, .inl (qS 0))), ((rS 1), .inl (cI, 8, .inl (qS 1))), ((rS 2), .inl (cI, 8, .inl (qS 2))), ((rS 3), .inl (cI, 8, .inl (qS 3))), (adB, .inr (0, [.int r_4, .int r_6, .int r_8, .int (gB 3), .int (gB 4)])), (wW 0, ck (LP 0)), (wW 1, ck (LP 1)), (wW 2, ck (LP 2)), (wW 3, ck (LP 3))] := hD
    refine lv_goto (tgt := 165) hx hb dX1_bring_120 (by decide) ?_
    have hF1 : F_X1_bring fN nN nC wW qS nS gB LP p0 = (nC, qS, nS, (upd (upd (upd gB 0 r_4) 1 r_6) 2 r_8), LP) := (eX1_bring_1 fN nN nC wW qS nS gB LP p0 r_1 x_3 r_4 x_5 r_6 x_7 r_8 er_1 ex_3 er_4 ex_5 er_6 ex_7 er_8 c_2)
    exact xv_ret hx hb hr hlocks hP hS (congrArg (fun o : Int32 × (Nat → Nat → Int32) × Int32 × (Nat → Int32) × (Nat → Nat → Int32) => ([(adN, .inr (1, [.ref adNa, .int nN])), (adNa, .inl (cI, 96, .inl fN)), (adC, .inr (3, [.ref adS, .ref adB, .ref adW, .int o.1])), (adW, .inl (cL, 4, .inr (.inr (.inr (.inr (fun j => some (wW j))))))), (adS, .inr (5, [.ref (rS 0), .ref (rS 1), .ref (rS 2), .ref (rS 3), .int o.2.2.1])), ((rS 0), .inl (cI, 8, .inl (o.2.1 0))), ((rS 1), .inl (cI, 8, .inl (o.2.1 1))), ((rS 2), .inl (cI, 8, .inl (o.2.1 2))), ((rS 3), .inl (cI, 8, .inl (o.2.1 3))), (adB, .inr (0, [.int (o.2.2.2.1 0), .int (o.2.2.2.1 1), .int (o.2.2.2.1 2), .int (o.2.2.2.1 3), .int (o.2.2.2.1 4)])), (wW 0, ck (o.2.2.2.2 0)), (wW 1, ck (o.2.2.2.2 1)), (wW 2, ck (o.2.2.2.2 2)), (wW 3, ck (o.2.2.2.2 3))] : va_W)) hF1).symm dX1_bring_165
  · by_cases c_9 : r_1 = 108
    · refine lv_lookup (off := 35) (tgt := 40) hx hb dX1_bring_5 (by decide) (by rw [c_9]; rfl) (by decide) ?_
      refine lv_aload_n hx hb dX1_bring_40 rfl (lv_at hl 1 rfl) ?_
      refine va_getN (D := D) (ci := 3) (v := .ref adS) (C := RX3) (T := TX3) (N := 4) hx hb hts (fun _ h => w_in (inlX3 _ h)) hown hK hP 2 rfl rfl 0 (by decide) (nf_OverTheShoulder_Letters_42 hN) (fun _ h9 => h9) rfl dX1_bring_41 ?_
      refine lv_aload_n hx hb dX1_bring_44 rfl (lv_at hl 0 rfl) ?_
      refine lv_iload_n hx hb dX1_bring_45 rfl (lv_at hl 2 rfl) ?_
      refine lv_iconst (v := 1) hx hb dX1_bring_46 (by decide) ?_
      refine lv_iadd hx hb dX1_bring_47 ?_
      refine lv_topi (fun x_10 ex_10 => ?_)
      refine x_ci [0, 1] (va_runV (As := [.int x_10]) (rest := [.ref adS]) ⟨hx, hb, hml, hown, hts⟩ (c_X1_digitAt l D cI cL adN adNa fN nN x_10 _) (cwV 1 hts (gv_ok (fun _ h => w_in h) wd_206 wd_203 wd_204 wd_205 wd_19) rfl rfl rfl (by decide +kernel) ⟨Nat.le_of_ble_eq_true rfl, Nat.le_of_ble_eq_true rfl⟩) (x_pv hN hK hP hD [0, 1] rfl rfl (ci := 1) (q0 := 0) rfl rfl) rfl rfl hl.1 rfl (lv_room (Nat.le_of_ble_eq_true rfl)) dX1_bring_48 ⟨Nat.zero_le _, Nat.zero_le _⟩) hP hD hS hA rfl (fun r_11 H locs er_11 hP hS => ?_)
      refine lv_aload_n hx hb dX1_bring_51 rfl (lv_at hl 0 rfl) ?_
      refine lv_iload_n hx hb dX1_bring_52 rfl (lv_at hl 2 rfl) ?_
      refine lv_iconst (v := 2) hx hb dX1_bring_53 (by decide) ?_
      refine lv_iadd hx hb dX1_bring_54 ?_
      refine lv_topi (fun x_12 ex_12 => ?_)
      refine x_ci [0, 1] (va_runV (As := [.int x_12]) (rest := [.int r_11, .ref adS]) ⟨hx, hb, hml, hown, hts⟩ (c_X1_digitAt l D cI cL adN adNa fN nN x_12 _) (cwV 1 hts (gv_ok (fun _ h => w_in h) wd_206 wd_203 wd_204 wd_205 wd_19) rfl rfl rfl (by decide +kernel) ⟨Nat.le_of_ble_eq_true rfl, Nat.le_of_ble_eq_true rfl⟩) (x_pv hN hK hP hD [0, 1] rfl rfl (ci := 1) (q0 := 0) rfl rfl) rfl rfl hl.1 rfl (lv_room (Nat.le_of_ble_eq_true rfl)) dX1_bring_55 ⟨Nat.zero_le _, Nat.zero_le _⟩) hP hD hS hA rfl (fun r_13 H locs er_13 hP hS => ?_)
      refine lv_aload_n hx hb dX1_bring_58 rfl (lv_at hl 0 rfl) ?_
      refine lv_iload_n hx hb dX1_bring_59 rfl (lv_at hl 2 rfl) ?_
      refine lv_iconst (v := 3) hx hb dX1_bring_60 (by decide) ?_
      refine lv_iadd hx hb dX1_bring_61 ?_
      refine lv_topi (fun x_14 ex_14 => ?_)
      refine x_ci [0, 1] (va_runV (As := [.int x_14]) (rest := [.int r_13, .int r_11, .ref adS]) ⟨hx, hb, hml, hown, hts⟩ (c_X1_digitAt l D cI cL adN adNa fN nN x_14 _) (cwV 1 hts (gv_ok (fun _ h => w_in h) wd_206 wd_203 wd_204 wd_205 wd_19) rfl rfl rfl (by decide +kernel) ⟨Nat.le_of_ble_eq_true rfl, Nat.le_of_ble_eq_true rfl⟩) (x_pv hN hK hP hD [0, 1] rfl rfl (ci := 1) (q0 := 0) rfl rfl) rfl rfl hl.1 rfl (lv_room (Nat.le_of_ble_eq_true rfl)) dX1_bring_62 ⟨Nat.zero_le _, Nat.zero_le _⟩) hP hD hS hA rfl (fun r_15 H locs er_15 hP hS => ?_)
      refine lv_aload_n hx hb dX1_bring_65 rfl (lv_at hl 0 rfl) ?_
      refine lv_iload_n hx hb dX1_bring_66 rfl (lv_at hl 2 rfl) ?_
      refine lv_iconst (v := 4) hx hb dX1_bring_67 (by decide) ?_
      refine lv_iadd hx hb dX1_bring_68 ?_
      refine lv_topi (fun x_16 ex_16 => ?_)
      refine x_ci [0, 1] (va_runV (As := [.int x_16]) (rest := [.int r_15, .int r_13, .int r_11, .ref adS]) ⟨hx, hb, hml, hown, hts⟩ (c_X1_digitAt l D cI cL adN adNa fN nN x_16 _) (cwV 1 hts (gv_ok (fun _ h => w_in h) wd_206 wd_203 wd_204 wd_205 wd_19) rfl rfl rfl (by decide +kernel) ⟨Nat.le_of_ble_eq_true rfl, Nat.le_of_ble_eq_true rfl⟩) (x_pv hN hK hP hD [0, 1] rfl rfl (ci := 1) (q0 := 0) rfl rfl) rfl rfl hl.1 rfl (lv_room (Nat.le_of_ble_eq_true rfl)) dX1_bring_69 ⟨Nat.zero_le _, Nat.zero_le _⟩) hP hD hS hA rfl (fun r_17 H locs er_17 hP hS => ?_)
      refine x_wv2 (a := ([(adN, .inr (1, [.ref adNa, .int nN])), (adNa, .inl (cI, 96, .inl fN)), (adC, .inr (3, [.ref adS, .ref adB, .ref adW, .int nC])), (adW, .inl (cL, 4, .inr (.inr (.inr (.inr (fun j => some (wW j))))))), (adS, .inr (5, [.ref (rS 0), .ref (rS 1), .ref (rS 2), .ref (rS 3), .int nS])), ((rS 0), .inl (cI, 8, .inl (qS 0))), ((rS 1), .inl (cI, 8, .inl (qS 1))), ((rS 2), .inl (cI, 8, .inl (qS 2))), ((rS 3), .inl (cI, 8, .inl (qS 3))), (adB, .inr (0, [.int (gB 0), .int (gB 1), .int (gB 2), .int (gB 3), .int (gB 4)])), (wW 0, ck (LP 0)), (wW 1, ck (LP 1)), (wW 2, ck (LP 2)), (wW 3, ck (LP 3))] : va_W)) (t := []) (o0 := (F_X5_add qS nS r_11 r_13 r_15 r_17)) (fun o : (Nat → Nat → Int32) × Int32 => ([(adS, .inr (5, [.ref (rS 0), .ref (rS 1), .ref (rS 2), .ref (rS 3), .int o.2])), ((rS 0), .inl (cI, 8, .inl (o.1 0))), ((rS 1), .inl (cI, 8, .inl (o.1 1))), ((rS 2), .inl (cI, 8, .inl (o.1 2))), ((rS 3), .inl (cI, 8, .inl (o.1 3)))] : va_W)) (fun o : (Nat → Nat → Int32) × Int32 => ([(adN, .inr (1, [.ref adNa, .int nN])), (adNa, .inl (cI, 96, .inl fN)), (adC, .inr (3, [.ref adS, .ref adB, .ref adW, .int nC])), (adW, .inl (cL, 4, .inr (.inr (.inr (.inr (fun j => some (wW j))))))), (adS, .inr (5, [.ref (rS 0), .ref (rS 1), .ref (rS 2), .ref (rS 3), .int o.2])), ((rS 0), .inl (cI, 8, .inl (o.1 0))), ((rS 1), .inl (cI, 8, .inl (o.1 1))), ((rS 2), .inl (cI, 8, .inl (o.1 2))), ((rS 3), .inl (cI, 8, .inl (o.1 3))), (adB, .inr (0, [.int (gB 0), .int (gB 1), .int (gB 2), .int (gB 3), .int (gB 4)])), (wW 0, ck (LP 0)), (wW 1, ck (LP 1)), (wW 2, ck (LP 2)), (wW 3, ck (LP 3))] : va_W)) [4, 5, 6, 7, 8] [0, 1, 2, 3, 9, 10, 11, 12, 13] (va_runV (As := [.int r_11, .int r_13, .int r_15, .int r_17]) (rest := []) ⟨hx, hb, hml, hown, hts⟩ (c_X5_add l D cI cL adS rS qS nS r_11 r_13 r_15 r_17 _) (cwV 4 hts (gv_ok (fun _ h => w_in h) wd_222 wd_219 wd_220 wd_221 wd_44) rfl rfl rfl (by decide +kernel) ⟨Nat.le_of_ble_eq_true rfl, Nat.le_of_ble_eq_true rfl⟩) (x_pv hN hK hP hD [4, 5, 6, 7, 8] rfl rfl (ci := 5) (q0 := 4) rfl rfl) rfl rfl hl.1 rfl (lv_room (Nat.le_of_ble_eq_true rfl)) dX1_bring_72 ⟨Nat.zero_le _, Nat.zero_le _⟩) hP hD hS hA rfl (fun _ => rfl) (fun _ => rfl) [(adN, .inr (1, [.ref adNa, .int nN])), (adNa, .inl (cI, 96, .inl fN)), (adC, .inr (3, [.ref adS, .ref adB, .ref adW, .int nC])), (adW, .inl (cL, 4, .inr (.inr (.inr (.inr (fun j => some (wW j))))))), (adB, .inr (0, [.int (gB 0), .int (gB 1), .int (gB 2), .int (gB 3), .int (gB 4)])), (wW 0, ck (LP 0)), (wW 1, ck (LP 1)), (wW 2, ck (LP 2)), (wW 3, ck (LP 3))] rfl (fun _ => rfl) rfl (fun o_18 H locs eo_18 hP hD hS => ?_)
      have hP : va_P D vwCl [(adN, .inr (1, [.ref adNa, .int nN])), (adNa, .inl (cI, 96, .inl fN)), (adC, .inr (3, [.ref adS, .ref adB, .ref adW, .int nC])), (adW, .inl (cL, 4, .inr (.inr (.inr (.inr (fun j => some (wW j))))))), (adS, .inr (5, [.ref (rS 0), .ref (rS 1), .ref (rS 2), .ref (rS 3), .int o_18.2])), ((rS 0), .inl (cI, 8, .inl (o_18.1 0))), ((rS 1), .inl (cI, 8, .inl (o_18.1 1))), ((rS 2), .inl (cI, 8, .inl (o_18.1 2))), ((rS 3), .inl (cI, 8, .inl (o_18.1 3))), (adB, .inr (0, [.int (gB 0), .int (gB 1), .int (gB 2), .int (gB 3), .int (gB 4)])), (wW 0, ck (LP 0)), (wW 1, ck (LP 1)), (wW 2, ck (LP 2)), (wW 3, ck (LP 3))] _ := hP
      have hD : va_D A [(adN, .inr (1, [.ref adNa, .int nN])), (adNa, .inl (cI, 96, .inl fN)), (adC, .inr (3, [.ref adS, .ref adB, .ref adW, .int nC])), (adW, .inl (cL, 4, .inr (.inr (.inr (.inr (fun j => some (wW j))))))), (adS, .inr (5, [.ref (rS 0), .ref (rS 1), .ref (rS 2), .ref (rS 3), .int o_18.2])), ((rS 0), .inl (cI, 8, .inl (o_18.1 0))), ((rS 1), .inl (cI, 8, .inl (o_18.1 1))), ((rS 2), .inl (cI, 8, .inl (o_18.1 2))), ((rS 3), .inl (cI, 8, .inl (o_18.1 3))), (adB, .inr (0, [.int (gB 0), .int (gB 1), .int (gB 2), .int (gB 3), .int (gB 4)])), (wW 0, ck (LP 0)), (wW 1, ck (LP 1)), (wW 2, ck (LP 2)), (wW 3, ck (LP 3))] := hD
      refine lv_goto (tgt := 165) hx hb dX1_bring_75 (by decide) ?_
      have hF1 : F_X1_bring fN nN nC wW qS nS gB LP p0 = (nC, o_18.1, o_18.2, gB, LP) := (eX1_bring_2 fN nN nC wW qS nS gB LP p0 r_1 x_10 r_11 x_12 r_13 x_14 r_15 x_16 r_17 o_18 er_1 ex_10 er_11 ex_12 er_13 ex_14 er_15 ex_16 er_17 eo_18 c_2 c_9)
      exact xv_ret hx hb hr hlocks hP hS (congrArg (fun o : Int32 × (Nat → Nat → Int32) × Int32 × (Nat → Int32) × (Nat → Nat → Int32) => ([(adN, .inr (1, [.ref adNa, .int nN])), (adNa, .inl (cI, 96, .inl fN)), (adC, .inr (3, [.ref adS, .ref adB, .ref adW, .int o.1])), (adW, .inl (cL, 4, .inr (.inr (.inr (.inr (fun j => some (wW j))))))), (adS, .inr (5, [.ref (rS 0), .ref (rS 1), .ref (rS 2), .ref (rS 3), .int o.2.2.1])), ((rS 0), .inl (cI, 8, .inl (o.2.1 0))), ((rS 1), .inl (cI, 8, .inl (o.2.1 1))), ((rS 2), .inl (cI, 8, .inl (o.2.1 2))), ((rS 3), .inl (cI, 8, .inl (o.2.1 3))), (adB, .inr (0, [.int (o.2.2.2.1 0), .int (o.2.2.2.1 1), .int (o.2.2.2.1 2), .int (o.2.2.2.1 3), .int (o.2.2.2.1 4)])), (wW 0, ck (o.2.2.2.2 0)), (wW 1, ck (o.2.2.2.2 1)), (wW 2, ck (o.2.2.2.2 2)), (wW 3, ck (o.2.2.2.2 3))] : va_W)) hF1).symm dX1_bring_165
    · by_cases c_19 : r_1 = 116
      · refine lv_lookup (off := 118) (tgt := 123) hx hb dX1_bring_5 (by decide) (by rw [c_19]; rfl) (by decide) ?_
        refine lv_aload_n hx hb dX1_bring_123 rfl (lv_at hl 1 rfl) ?_
        refine va_getN (D := D) (ci := 3) (v := .ref adB) (C := RX3) (T := TX3) (N := 4) hx hb hts (fun _ h => w_in (inlX3 _ h)) hown hK hP 2 rfl rfl 1 (by decide) (nf_OverTheShoulder_Letters_57 hN) (fun _ h9 => h9) rfl dX1_bring_124 ?_
        refine lv_aload_n hx hb dX1_bring_127 rfl (lv_at hl 0 rfl) ?_
        refine lv_iload_n hx hb dX1_bring_128 rfl (lv_at hl 2 rfl) ?_
        refine lv_iconst (v := 1) hx hb dX1_bring_129 (by decide) ?_
        refine lv_iadd hx hb dX1_bring_130 ?_
        refine lv_topi (fun x_20 ex_20 => ?_)
        refine x_ci [0, 1] (va_runV (As := [.int x_20]) (rest := [.ref adB]) ⟨hx, hb, hml, hown, hts⟩ (c_X1_tiltAt l D cI cL adN adNa fN nN x_20 _) (cwV 1 hts (gv_ok (fun _ h => w_in h) wd_226 wd_223 wd_224 wd_225 wd_19) rfl rfl rfl (by decide +kernel) ⟨Nat.le_of_ble_eq_true rfl, Nat.le_of_ble_eq_true rfl⟩) (x_pv hN hK hP hD [0, 1] rfl rfl (ci := 1) (q0 := 0) rfl rfl) rfl rfl hl.1 rfl (lv_room (Nat.le_of_ble_eq_true rfl)) dX1_bring_131 ⟨Nat.zero_le _, Nat.zero_le _⟩) hP hD hS hA rfl (fun r_21 H locs er_21 hP hS => ?_)
        refine va_putN (D := D) (ci := 0) (v := .int r_21) (ty := .int) (C := RX0) (T := TX0) (N := 5) hx hb hts (fun _ h => w_in (inlX0 _ h)) tyX0 tyX0_ok nmX0 hown hK hP hD hS 9 rfl rfl 3 (by decide) (nf_OverTheShoulder_Letters_78 hN) (fun _ h9 => h9) rfl (by decide +kernel) rfl rfl (Nat.le_of_ble_eq_true rfl) dX1_bring_134 (fun H locs hP hD hS => ?_)
        have hP : va_P D vwCl [(adN, .inr (1, [.ref adNa, .int nN])), (adNa, .inl (cI, 96, .inl fN)), (adC, .inr (3, [.ref adS, .ref adB, .ref adW, .int nC])), (adW, .inl (cL, 4, .inr (.inr (.inr (.inr (fun j => some (wW j))))))), (adS, .inr (5, [.ref (rS 0), .ref (rS 1), .ref (rS 2), .ref (rS 3), .int nS])), ((rS 0), .inl (cI, 8, .inl (qS 0))), ((rS 1), .inl (cI, 8, .inl (qS 1))), ((rS 2), .inl (cI, 8, .inl (qS 2))), ((rS 3), .inl (cI, 8, .inl (qS 3))), (adB, .inr (0, [.int (gB 0), .int (gB 1), .int (gB 2), .int r_21, .int (gB 4)])), (wW 0, ck (LP 0)), (wW 1, ck (LP 1)), (wW 2, ck (LP 2)), (wW 3, ck (LP 3))] _ := hP
        have hD : va_D A [(adN, .inr (1, [.ref adNa, .int nN])), (adNa, .inl (cI, 96, .inl fN)), (adC, .inr (3, [.ref adS, .ref adB, .ref adW, .int nC])), (adW, .inl (cL, 4, .inr (.inr (.inr (.inr (fun j => some (wW j))))))), (adS, .inr (5, [.ref (rS 0), .ref (rS 1), .ref (rS 2), .ref (rS 3), .int nS])), ((rS 0), .inl (cI, 8, .inl (qS 0))), ((rS 1), .inl (cI, 8, .inl (qS 1))), ((rS 2), .inl (cI, 8, .inl (qS 2))), ((rS 3), .inl (cI, 8, .inl (qS 3))), (adB, .inr (0, [.int (gB 0), .int (gB 1), .int (gB 2), .int r_21, .int (gB 4)])), (wW 0, ck (LP 0)), (wW 1, ck (LP 1)), (wW 2, ck (LP 2)), (wW 3, ck (LP 3))] := hD
        refine lv_goto (tgt := 165) hx hb dX1_bring_137 (by decide) ?_
        have hF1 : F_X1_bring fN nN nC wW qS nS gB LP p0 = (nC, qS, nS, (upd gB 3 r_21), LP) := (eX1_bring_3 fN nN nC wW qS nS gB LP p0 r_1 x_20 r_21 er_1 ex_20 er_21 c_2 c_9 c_19)
        exact xv_ret hx hb hr hlocks hP hS (congrArg (fun o : Int32 × (Nat → Nat → Int32) × Int32 × (Nat → Int32) × (Nat → Nat → Int32) => ([(adN, .inr (1, [.ref adNa, .int nN])), (adNa, .inl (cI, 96, .inl fN)), (adC, .inr (3, [.ref adS, .ref adB, .ref adW, .int o.1])), (adW, .inl (cL, 4, .inr (.inr (.inr (.inr (fun j => some (wW j))))))), (adS, .inr (5, [.ref (rS 0), .ref (rS 1), .ref (rS 2), .ref (rS 3), .int o.2.2.1])), ((rS 0), .inl (cI, 8, .inl (o.2.1 0))), ((rS 1), .inl (cI, 8, .inl (o.2.1 1))), ((rS 2), .inl (cI, 8, .inl (o.2.1 2))), ((rS 3), .inl (cI, 8, .inl (o.2.1 3))), (adB, .inr (0, [.int (o.2.2.2.1 0), .int (o.2.2.2.1 1), .int (o.2.2.2.1 2), .int (o.2.2.2.1 3), .int (o.2.2.2.1 4)])), (wW 0, ck (o.2.2.2.2 0)), (wW 1, ck (o.2.2.2.2 1)), (wW 2, ck (o.2.2.2.2 2)), (wW 3, ck (o.2.2.2.2 3))] : va_W)) hF1).symm dX1_bring_165
      · refine lv_lookup (off := 135) (tgt := 140) hx hb dX1_bring_5 (by decide) (by simp only [Op.lookupswitch.offset]; rw [if_neg (x_nk (z := 104) c_2 rfl), if_neg (x_nk (z := 108) c_9 rfl), if_neg (x_nk (z := 116) c_19 rfl)]) (by decide) ?_
        refine lv_aload_n hx hb dX1_bring_140 rfl (lv_at hl 1 rfl) ?_
        refine lv_aload_n hx hb dX1_bring_141 rfl (lv_at hl 0 rfl) ?_
        refine lv_iload_n hx hb dX1_bring_142 rfl (lv_at hl 2 rfl) ?_
        refine lv_iconst (v := 1) hx hb dX1_bring_143 (by decide) ?_
        refine lv_iadd hx hb dX1_bring_144 ?_
        refine lv_topi (fun x_22 ex_22 => ?_)
        refine x_ci [0, 1] (va_runV (As := [.int x_22]) (rest := [.ref adC]) ⟨hx, hb, hml, hown, hts⟩ (c_X1_digitAt l D cI cL adN adNa fN nN x_22 _) (cwV 1 hts (gv_ok (fun _ h => w_in h) wd_206 wd_203 wd_204 wd_205 wd_19) rfl rfl rfl (by decide +kernel) ⟨Nat.le_of_ble_eq_true rfl, Nat.le_of_ble_eq_true rfl⟩) (x_pv hN hK hP hD [0, 1] rfl rfl (ci := 1) (q0 := 0) rfl rfl) rfl rfl hl.1 rfl (lv_room (Nat.le_of_ble_eq_true rfl)) dX1_bring_145 ⟨Nat.zero_le _, Nat.zero_le _⟩) hP hD hS hA rfl (fun r_23 H locs er_23 hP hS => ?_)
        refine lv_aload_n hx hb dX1_bring_148 rfl (lv_at hl 0 rfl) ?_
        refine lv_iload_n hx hb dX1_bring_149 rfl (lv_at hl 2 rfl) ?_
        refine lv_iconst (v := 2) hx hb dX1_bring_150 (by decide) ?_
        refine lv_iadd hx hb dX1_bring_151 ?_
        refine lv_topi (fun x_24 ex_24 => ?_)
        refine x_ci [0, 1] (va_runV (As := [.int x_24]) (rest := [.int r_23, .ref adC]) ⟨hx, hb, hml, hown, hts⟩ (c_X1_digitAt l D cI cL adN adNa fN nN x_24 _) (cwV 1 hts (gv_ok (fun _ h => w_in h) wd_206 wd_203 wd_204 wd_205 wd_19) rfl rfl rfl (by decide +kernel) ⟨Nat.le_of_ble_eq_true rfl, Nat.le_of_ble_eq_true rfl⟩) (x_pv hN hK hP hD [0, 1] rfl rfl (ci := 1) (q0 := 0) rfl rfl) rfl rfl hl.1 rfl (lv_room (Nat.le_of_ble_eq_true rfl)) dX1_bring_152 ⟨Nat.zero_le _, Nat.zero_le _⟩) hP hD hS hA rfl (fun r_25 H locs er_25 hP hS => ?_)
        refine lv_aload_n hx hb dX1_bring_155 rfl (lv_at hl 0 rfl) ?_
        refine lv_iload_n hx hb dX1_bring_156 rfl (lv_at hl 2 rfl) ?_
        refine lv_iconst (v := 3) hx hb dX1_bring_157 (by decide) ?_
        refine lv_iadd hx hb dX1_bring_158 ?_
        refine lv_topi (fun x_26 ex_26 => ?_)
        refine x_ci [0, 1] (va_runV (As := [.int x_26]) (rest := [.int r_25, .int r_23, .ref adC]) ⟨hx, hb, hml, hown, hts⟩ (c_X1_numberAt l D cI cL adN adNa fN nN x_26 _) (cwV 1 hts (gv_ok (fun _ h => w_in h) wd_210 wd_207 wd_208 wd_209 wd_19) rfl rfl rfl (by decide +kernel) ⟨Nat.le_of_ble_eq_true rfl, Nat.le_of_ble_eq_true rfl⟩) (x_pv hN hK hP hD [0, 1] rfl rfl (ci := 1) (q0 := 0) rfl rfl) rfl rfl hl.1 rfl (lv_room (Nat.le_of_ble_eq_true rfl)) dX1_bring_159 ⟨Nat.zero_le _, Nat.zero_le _⟩) hP hD hS hA rfl (fun r_27 H locs er_27 hP hS => ?_)
        refine x_wv2 (a := ([(adN, .inr (1, [.ref adNa, .int nN])), (adNa, .inl (cI, 96, .inl fN)), (adC, .inr (3, [.ref adS, .ref adB, .ref adW, .int nC])), (adW, .inl (cL, 4, .inr (.inr (.inr (.inr (fun j => some (wW j))))))), (adS, .inr (5, [.ref (rS 0), .ref (rS 1), .ref (rS 2), .ref (rS 3), .int nS])), ((rS 0), .inl (cI, 8, .inl (qS 0))), ((rS 1), .inl (cI, 8, .inl (qS 1))), ((rS 2), .inl (cI, 8, .inl (qS 2))), ((rS 3), .inl (cI, 8, .inl (qS 3))), (adB, .inr (0, [.int (gB 0), .int (gB 1), .int (gB 2), .int (gB 3), .int (gB 4)])), (wW 0, ck (LP 0)), (wW 1, ck (LP 1)), (wW 2, ck (LP 2)), (wW 3, ck (LP 3))] : va_W)) (t := []) (o0 := (F_X3_addLooker nC wW LP r_23 r_25 r_27)) (fun o : Int32 × (Nat → Nat → Int32) => ([(adC, .inr (3, [.ref adS, .ref adB, .ref adW, .int o.1])), (adW, .inl (cL, 4, .inr (.inr (.inr (.inr (fun j => some (wW j))))))), (wW 0, ck (o.2 0)), (wW 1, ck (o.2 1)), (wW 2, ck (o.2 2)), (wW 3, ck (o.2 3))] : va_W)) (fun o : Int32 × (Nat → Nat → Int32) => ([(adN, .inr (1, [.ref adNa, .int nN])), (adNa, .inl (cI, 96, .inl fN)), (adC, .inr (3, [.ref adS, .ref adB, .ref adW, .int o.1])), (adW, .inl (cL, 4, .inr (.inr (.inr (.inr (fun j => some (wW j))))))), (adS, .inr (5, [.ref (rS 0), .ref (rS 1), .ref (rS 2), .ref (rS 3), .int nS])), ((rS 0), .inl (cI, 8, .inl (qS 0))), ((rS 1), .inl (cI, 8, .inl (qS 1))), ((rS 2), .inl (cI, 8, .inl (qS 2))), ((rS 3), .inl (cI, 8, .inl (qS 3))), (adB, .inr (0, [.int (gB 0), .int (gB 1), .int (gB 2), .int (gB 3), .int (gB 4)])), (wW 0, ck (o.2 0)), (wW 1, ck (o.2 1)), (wW 2, ck (o.2 2)), (wW 3, ck (o.2 3))] : va_W)) [2, 3, 10, 11, 12, 13] [0, 1, 4, 5, 6, 7, 8, 9] (va_runV (As := [.int r_23, .int r_25, .int r_27]) (rest := []) ⟨hx, hb, hml, hown, hts⟩ (c_X3_addLooker l D cI cL adC adS adB adW nC wW LP r_23 r_25 r_27 _) (cwV 3 hts (gv_ok (fun _ h => w_in h) wd_230 wd_227 wd_228 wd_229 wd_14) rfl rfl rfl (by decide +kernel) ⟨Nat.le_of_ble_eq_true rfl, Nat.le_of_ble_eq_true rfl⟩) (x_pv hN hK hP hD [2, 3, 10, 11, 12, 13] rfl rfl (ci := 3) (q0 := 2) rfl rfl) rfl rfl hl.1 rfl (lv_room (Nat.le_of_ble_eq_true rfl)) dX1_bring_162 ⟨Nat.zero_le _, Nat.zero_le _⟩) hP hD hS hA rfl (fun _ => rfl) (fun _ => rfl) [(adN, .inr (1, [.ref adNa, .int nN])), (adNa, .inl (cI, 96, .inl fN)), (adS, .inr (5, [.ref (rS 0), .ref (rS 1), .ref (rS 2), .ref (rS 3), .int nS])), ((rS 0), .inl (cI, 8, .inl (qS 0))), ((rS 1), .inl (cI, 8, .inl (qS 1))), ((rS 2), .inl (cI, 8, .inl (qS 2))), ((rS 3), .inl (cI, 8, .inl (qS 3))), (adB, .inr (0, [.int (gB 0), .int (gB 1), .int (gB 2), .int (gB 3), .int (gB 4)]))] rfl (fun _ => rfl) rfl (fun o_28 H locs eo_28 hP hD hS => ?_)
        have hP : va_P D vwCl [(adN, .inr (1, [.ref adNa, .int nN])), (adNa, .inl (cI, 96, .inl fN)), (adC, .inr (3, [.ref adS, .ref adB, .ref adW, .int o_28.1])), (adW, .inl (cL, 4, .inr (.inr (.inr (.inr (fun j => some (wW j))))))), (adS, .inr (5, [.ref (rS 0), .ref (rS 1), .ref (rS 2), .ref (rS 3), .int nS])), ((rS 0), .inl (cI, 8, .inl (qS 0))), ((rS 1), .inl (cI, 8, .inl (qS 1))), ((rS 2), .inl (cI, 8, .inl (qS 2))), ((rS 3), .inl (cI, 8, .inl (qS 3))), (adB, .inr (0, [.int (gB 0), .int (gB 1), .int (gB 2), .int (gB 3), .int (gB 4)])), (wW 0, ck (o_28.2 0)), (wW 1, ck (o_28.2 1)), (wW 2, ck (o_28.2 2)), (wW 3, ck (o_28.2 3))] _ := hP
        have hD : va_D A [(adN, .inr (1, [.ref adNa, .int nN])), (adNa, .inl (cI, 96, .inl fN)), (adC, .inr (3, [.ref adS, .ref adB, .ref adW, .int o_28.1])), (adW, .inl (cL, 4, .inr (.inr (.inr (.inr (fun j => some (wW j))))))), (adS, .inr (5, [.ref (rS 0), .ref (rS 1), .ref (rS 2), .ref (rS 3), .int nS])), ((rS 0), .inl (cI, 8, .inl (qS 0))), ((rS 1), .inl (cI, 8, .inl (qS 1))), ((rS 2), .inl (cI, 8, .inl (qS 2))), ((rS 3), .inl (cI, 8, .inl (qS 3))), (adB, .inr (0, [.int (gB 0), .int (gB 1), .int (gB 2), .int (gB 3), .int (gB 4)])), (wW 0, ck (o_28.2 0)), (wW 1, ck (o_28.2 1)), (wW 2, ck (o_28.2 2)), (wW 3, ck (o_28.2 3))] := hD
        have hF1 : F_X1_bring fN nN nC wW qS nS gB LP p0 = (o_28.1, qS, nS, gB, o_28.2) := (eX1_bring_4 fN nN nC wW qS nS gB LP p0 r_1 x_22 r_23 x_24 r_25 x_26 r_27 o_28 er_1 ex_22 er_23 ex_24 er_25 ex_26 er_27 eo_28 c_2 c_9 c_19)
        exact xv_ret hx hb hr hlocks hP hS (congrArg (fun o : Int32 × (Nat → Nat → Int32) × Int32 × (Nat → Int32) × (Nat → Nat → Int32) => ([(adN, .inr (1, [.ref adNa, .int nN])), (adNa, .inl (cI, 96, .inl fN)), (adC, .inr (3, [.ref adS, .ref adB, .ref adW, .int o.1])), (adW, .inl (cL, 4, .inr (.inr (.inr (.inr (fun j => some (wW j))))))), (adS, .inr (5, [.ref (rS 0), .ref (rS 1), .ref (rS 2), .ref (rS 3), .int o.2.2.1])), ((rS 0), .inl (cI, 8, .inl (o.2.1 0))), ((rS 1), .inl (cI, 8, .inl (o.2.1 1))), ((rS 2), .inl (cI, 8, .inl (o.2.1 2))), ((rS 3), .inl (cI, 8, .inl (o.2.1 3))), (adB, .inr (0, [.int (o.2.2.2.1 0), .int (o.2.2.2.1 1), .int (o.2.2.2.1 2), .int (o.2.2.2.1 3), .int (o.2.2.2.1 4)])), (wW 0, ck (o.2.2.2.2 0)), (wW 1, ck (o.2.2.2.2 1)), (wW 2, ck (o.2.2.2.2 2)), (wW 3, ck (o.2.2.2.2 3))] : va_W)) hF1).symm dX1_bring_165

noncomputable def F_X1_bringAll_L4 (fN : Nat → Int32) (nN : Int32) (nC : Int32) (wW : Nat → Nat) (qS : Nat → Nat → Int32) (nS : Int32) (gB : Nat → Int32) (LP : Nat → Nat → Int32) : Nat → (Nat → Nat → Int32) → (Nat → Int32) → Int32 → Int32 → (Nat → Nat → Int32) → Int32 → Int32 → Int32 × Int32 × (Nat → Nat → Int32) × Int32 × (Nat → Int32) × (Nat → Nat → Int32)
  | 0, _, _, _, _, _, _, _ => default
  | n + 1, LPa, gBa, nCa, nSa, qSa, v2a, v3a =>
  if 96 ≤ v3a then
  ((v3a, nCa, qSa, nSa, gBa, LPa))
  else
  (if v2a < 0 then
  ((v3a, nCa, qSa, nSa, gBa, LPa))
  else
  (if nN ≤ v2a then
  ((v3a, nCa, qSa, nSa, gBa, LPa))
  else
  (let o_4 : Int32 × (Nat → Nat → Int32) × Int32 × (Nat → Int32) × (Nat → Nat → Int32) := (F_X1_bring fN nN nCa wW qSa nSa gBa LPa v2a)
  let r_5 : Int32 := (F_X1_behindStatement fN nN v2a)
  let x_6 : Int32 := v3a + 1
  F_X1_bringAll_L4 fN nN nC wW qS nS gB LP n o_4.2.2.2.2 o_4.2.2.2.1 o_4.1 o_4.2.2.1 o_4.2.1 r_5 x_6)))
noncomputable def F_X1_bringAll (fN : Nat → Int32) (nN : Int32) (nC : Int32) (wW : Nat → Nat) (qS : Nat → Nat → Int32) (nS : Int32) (gB : Nat → Int32) (LP : Nat → Nat → Int32) : Int32 × Int32 × (Nat → Nat → Int32) × Int32 × (Nat → Int32) × (Nat → Nat → Int32) :=
  F_X1_bringAll_L4 fN nN nC wW qS nS gB LP ((((96 : Int32).toInt - (0 : Int32).toInt).toNat) + 1) LP gB nC nS qS 0 0
set_option maxRecDepth 100000 in
theorem eX1_bringAll_1 (fN : Nat → Int32) (nN : Int32) (nC : Int32) (wW : Nat → Nat) (qS : Nat → Nat → Int32) (nS : Int32) (gB : Nat → Int32) (LP : Nat → Nat → Int32) (nf : Nat) (LPa : Nat → Nat → Int32) (gBa : Nat → Int32) (nCa : Int32) (nSa : Int32) (qSa : Nat → Nat → Int32) (v2a : Int32) (v3a : Int32) (c_1 : 96 ≤ v3a) : F_X1_bringAll_L4 fN nN nC wW qS nS gB LP (nf + 1) LPa gBa nCa nSa qSa v2a v3a = (v3a, nCa, qSa, nSa, gBa, LPa) := by exact (if_pos c_1).trans (rfl)
set_option maxRecDepth 100000 in
theorem eX1_bringAll_2 (fN : Nat → Int32) (nN : Int32) (nC : Int32) (wW : Nat → Nat) (qS : Nat → Nat → Int32) (nS : Int32) (gB : Nat → Int32) (LP : Nat → Nat → Int32) (nf : Nat) (LPa : Nat → Nat → Int32) (gBa : Nat → Int32) (nCa : Int32) (nSa : Int32) (qSa : Nat → Nat → Int32) (v2a : Int32) (v3a : Int32) (c_1 : ¬ (96 ≤ v3a)) (c_2 : v2a < 0) : F_X1_bringAll_L4 fN nN nC wW qS nS gB LP (nf + 1) LPa gBa nCa nSa qSa v2a v3a = (v3a, nCa, qSa, nSa, gBa, LPa) := by exact (if_neg c_1).trans ((if_pos c_2).trans (rfl))
set_option maxRecDepth 100000 in
theorem eX1_bringAll_3 (fN : Nat → Int32) (nN : Int32) (nC : Int32) (wW : Nat → Nat) (qS : Nat → Nat → Int32) (nS : Int32) (gB : Nat → Int32) (LP : Nat → Nat → Int32) (nf : Nat) (LPa : Nat → Nat → Int32) (gBa : Nat → Int32) (nCa : Int32) (nSa : Int32) (qSa : Nat → Nat → Int32) (v2a : Int32) (v3a : Int32) (c_1 : ¬ (96 ≤ v3a)) (c_2 : ¬ (v2a < 0)) (c_3 : nN ≤ v2a) : F_X1_bringAll_L4 fN nN nC wW qS nS gB LP (nf + 1) LPa gBa nCa nSa qSa v2a v3a = (v3a, nCa, qSa, nSa, gBa, LPa) := by exact (if_neg c_1).trans ((if_neg c_2).trans ((if_pos c_3).trans (rfl)))
set_option maxRecDepth 100000 in
theorem eX1_bringAll_4 (fN : Nat → Int32) (nN : Int32) (nC : Int32) (wW : Nat → Nat) (qS : Nat → Nat → Int32) (nS : Int32) (gB : Nat → Int32) (LP : Nat → Nat → Int32) (nf : Nat) (LPa : Nat → Nat → Int32) (gBa : Nat → Int32) (nCa : Int32) (nSa : Int32) (qSa : Nat → Nat → Int32) (v2a : Int32) (v3a : Int32) (o_4 : Int32 × (Nat → Nat → Int32) × Int32 × (Nat → Int32) × (Nat → Nat → Int32)) (r_5 : Int32) (x_6 : Int32) (eo_4 : o_4 = (F_X1_bring fN nN nCa wW qSa nSa gBa LPa v2a)) (er_5 : r_5 = (F_X1_behindStatement fN nN v2a)) (ex_6 : x_6 = v3a + 1) (c_1 : ¬ (96 ≤ v3a)) (c_2 : ¬ (v2a < 0)) (c_3 : ¬ (nN ≤ v2a)) : F_X1_bringAll_L4 fN nN nC wW qS nS gB LP (nf + 1) LPa gBa nCa nSa qSa v2a v3a = F_X1_bringAll_L4 fN nN nC wW qS nS gB LP nf o_4.2.2.2.2 o_4.2.2.2.1 o_4.1 o_4.2.2.1 o_4.2.1 r_5 x_6 := by subst eo_4 er_5 ex_6; exact (if_neg c_1).trans ((if_neg c_2).trans ((if_neg c_3).trans (rfl)))
set_option maxHeartbeats 4000000 in
set_option maxRecDepth 100000 in
theorem c_X1_bringAll (l : Launch) (D : va_G) (cI cL : ClassId)   (adN : Nat) (adNa : Nat) (adC : Nat) (adW : Nat) (adS : Nat) (rS : Nat → Nat) (adB : Nat) (fN : Nat → Int32) (nN : Int32) (nC : Int32) (wW : Nat → Nat) (qS : Nat → Nat → Int32) (nS : Int32) (gB : Nat → Int32) (LP : Nat → Nat → Int32)  : Xi l yX1_bringAll (wm yX1_bringAll cX1_bringAll 4 (some .int)) (xR (4) (89)) D (tyA cI cL) [.ref adN, .ref adC] [(adN, .inr (1, [.ref adNa, .int nN])), (adNa, .inl (cI, 96, .inl fN)), (adC, .inr (3, [.ref adS, .ref adB, .ref adW, .int nC])), (adW, .inl (cL, 4, .inr (.inr (.inr (.inr (fun j => some (wW j))))))), (adS, .inr (5, [.ref (rS 0), .ref (rS 1), .ref (rS 2), .ref (rS 3), .int nS])), ((rS 0), .inl (cI, 8, .inl (qS 0))), ((rS 1), .inl (cI, 8, .inl (qS 1))), ((rS 2), .inl (cI, 8, .inl (qS 2))), ((rS 3), .inl (cI, 8, .inl (qS 3))), (adB, .inr (0, [.int (gB 0), .int (gB 1), .int (gB 2), .int (gB 3), .int (gB 4)])), (wW 0, ck (LP 0)), (wW 1, ck (LP 1)), (wW 2, ck (LP 2)), (wW 3, ck (LP 3))] [(adN, .inr (1, [.ref adNa, .int nN])), (adNa, .inl (cI, 96, .inl fN)), (adC, .inr (3, [.ref adS, .ref adB, .ref adW, .int (F_X1_bringAll fN nN nC wW qS nS gB LP).2.1])), (adW, .inl (cL, 4, .inr (.inr (.inr (.inr (fun j => some (wW j))))))), (adS, .inr (5, [.ref (rS 0), .ref (rS 1), .ref (rS 2), .ref (rS 3), .int (F_X1_bringAll fN nN nC wW qS nS gB LP).2.2.2.1])), ((rS 0), .inl (cI, 8, .inl ((F_X1_bringAll fN nN nC wW qS nS gB LP).2.2.1 0))), ((rS 1), .inl (cI, 8, .inl ((F_X1_bringAll fN nN nC wW qS nS gB LP).2.2.1 1))), ((rS 2), .inl (cI, 8, .inl ((F_X1_bringAll fN nN nC wW qS nS gB LP).2.2.1 2))), ((rS 3), .inl (cI, 8, .inl ((F_X1_bringAll fN nN nC wW qS nS gB LP).2.2.1 3))), (adB, .inr (0, [.int ((F_X1_bringAll fN nN nC wW qS nS gB LP).2.2.2.2.1 0), .int ((F_X1_bringAll fN nN nC wW qS nS gB LP).2.2.2.2.1 1), .int ((F_X1_bringAll fN nN nC wW qS nS gB LP).2.2.2.2.1 2), .int ((F_X1_bringAll fN nN nC wW qS nS gB LP).2.2.2.2.1 3), .int ((F_X1_bringAll fN nN nC wW qS nS gB LP).2.2.2.2.1 4)])), (wW 0, ck ((F_X1_bringAll fN nN nC wW qS nS gB LP).2.2.2.2.2 0)), (wW 1, ck ((F_X1_bringAll fN nN nC wW qS nS gB LP).2.2.2.2.2 1)), (wW 2, ck ((F_X1_bringAll fN nN nC wW qS nS gB LP).2.2.2.2.2 2)), (wW 3, ck ((F_X1_bringAll fN nN nC wW qS nS gB LP).2.2.2.2.2 3))] (F_X1_bringAll fN nN nC wW qS nS gB LP).1 := by
  intro sz
  refine x_in (cc := cX1_bringAll) (maxL := 4) (ret := (some .int)) (by decide) rfl (Nat.le_of_ble_eq_true rfl) (fun p e s m below meth c A ls hfix hr hlocks hN hK hP hAe hD hA hS hl => ?_)
  obtain ⟨hx, hb, hml, hown, hts⟩ := hfix
  rw [← hAe]
  clear hAe
  have hown : s.vm.findClass RX1 = some m.cls := hown
  have htL : ∀ w ∈ wsL_law, w.before ([.ref adN, .ref adC] : List Value).toArray s = true := fun w h => hts w (List.mem_cons_of_mem _ h)
  have hl : lv_has ls 4 [(0, .ref adN), (1, .ref adC)] := hl
  refine lv_iconst (v := 0) hx hb dX1_bringAll_0 (by decide) ?_
  refine lv_istore_n (lv' := [(2, .int 0), (0, .ref adN), (1, .ref adC)]) hx hb dX1_bringAll_1 rfl hl (by decide) rfl (fun ls hl => ?_)
  refine lv_iconst (v := 0) hx hb dX1_bringAll_2 (by decide) ?_
  refine lv_istore_n (lv' := [(3, .int 0), (2, .int 0), (0, .ref adN), (1, .ref adC)]) hx hb dX1_bringAll_3 rfl hl (by decide) rfl (fun ls hl => ?_)
  have loop : ∀ (nf : Nat) (LPa : Nat → Nat → Int32) (gBa : Nat → Int32) (nCa : Int32) (nSa : Int32) (qSa : Nat → Nat → Int32) (v2a : Int32) (v3a : Int32) (H : Heap) (locs : List Loc) (ls : Array Slot), ((96 : Int32).toInt - v3a.toInt).toNat < nf → F_X1_bringAll fN nN nC wW qS nS gB LP = F_X1_bringAll_L4 fN nN nC wW qS nS gB LP nf LPa gBa nCa nSa qSa v2a v3a → va_P D vwCl [(adN, .inr (1, [.ref adNa, .int nN])), (adNa, .inl (cI, 96, .inl fN)), (adC, .inr (3, [.ref adS, .ref adB, .ref adW, .int nCa])), (adW, .inl (cL, 4, .inr (.inr (.inr (.inr (fun j => some (wW j))))))), (adS, .inr (5, [.ref (rS 0), .ref (rS 1), .ref (rS 2), .ref (rS 3), .int nSa])), ((rS 0), .inl (cI, 8, .inl (qSa 0))), ((rS 1), .inl (cI, 8, .inl (qSa 1))), ((rS 2), .inl (cI, 8, .inl (qSa 2))), ((rS 3), .inl (cI, 8, .inl (qSa 3))), (adB, .inr (0, [.int (gBa 0), .int (gBa 1), .int (gBa 2), .int (gBa 3), .int (gBa 4)])), (wW 0, ck (LPa 0)), (wW 1, ck (LPa 1)), (wW 2, ck (LPa 2)), (wW 3, ck (LPa 3))] H → va_D A [(adN, .inr (1, [.ref adNa, .int nN])), (adNa, .inl (cI, 96, .inl fN)), (adC, .inr (3, [.ref adS, .ref adB, .ref adW, .int nCa])), (adW, .inl (cL, 4, .inr (.inr (.inr (.inr (fun j => some (wW j))))))), (adS, .inr (5, [.ref (rS 0), .ref (rS 1), .ref (rS 2), .ref (rS 3), .int nSa])), ((rS 0), .inl (cI, 8, .inl (qSa 0))), ((rS 1), .inl (cI, 8, .inl (qSa 1))), ((rS 2), .inl (cI, 8, .inl (qSa 2))), ((rS 3), .inl (cI, 8, .inl (qSa 3))), (adB, .inr (0, [.int (gBa 0), .int (gBa 1), .int (gBa 2), .int (gBa 3), .int (gBa 4)])), (wW 0, ck (LPa 0)), (wW 1, ck (LPa 1)), (wW 2, ck (LPa 2)), (wW 3, ck (LPa 3))] → va_S A s.heap H locs → lv_has ls 4 [(3, .int v3a), (2, .int v2a), (0, .ref adN), (1, .ref adC)] → W p l e (xR (4) (89)) s m ([.ref adN, .ref adC] : List Value).toArray below meth c H locs 0 0 (MQ below (va_Qi (fun (r' : Int32) (_ : Unit) => r' = (F_X1_bringAll fN nN nC wW qS nS gB LP).1) (xE D [(adN, .inr (1, [.ref adNa, .int nN])), (adNa, .inl (cI, 96, .inl fN)), (adC, .inr (3, [.ref adS, .ref adB, .ref adW, .int (F_X1_bringAll fN nN nC wW qS nS gB LP).2.1])), (adW, .inl (cL, 4, .inr (.inr (.inr (.inr (fun j => some (wW j))))))), (adS, .inr (5, [.ref (rS 0), .ref (rS 1), .ref (rS 2), .ref (rS 3), .int (F_X1_bringAll fN nN nC wW qS nS gB LP).2.2.2.1])), ((rS 0), .inl (cI, 8, .inl ((F_X1_bringAll fN nN nC wW qS nS gB LP).2.2.1 0))), ((rS 1), .inl (cI, 8, .inl ((F_X1_bringAll fN nN nC wW qS nS gB LP).2.2.1 1))), ((rS 2), .inl (cI, 8, .inl ((F_X1_bringAll fN nN nC wW qS nS gB LP).2.2.1 2))), ((rS 3), .inl (cI, 8, .inl ((F_X1_bringAll fN nN nC wW qS nS gB LP).2.2.1 3))), (adB, .inr (0, [.int ((F_X1_bringAll fN nN nC wW qS nS gB LP).2.2.2.2.1 0), .int ((F_X1_bringAll fN nN nC wW qS nS gB LP).2.2.2.2.1 1), .int ((F_X1_bringAll fN nN nC wW qS nS gB LP).2.2.2.2.1 2), .int ((F_X1_bringAll fN nN nC wW qS nS gB LP).2.2.2.2.1 3), .int ((F_X1_bringAll fN nN nC wW qS nS gB LP).2.2.2.2.1 4)])), (wW 0, ck ((F_X1_bringAll fN nN nC wW qS nS gB LP).2.2.2.2.2 0)), (wW 1, ck ((F_X1_bringAll fN nN nC wW qS nS gB LP).2.2.2.2.2 1)), (wW 2, ck ((F_X1_bringAll fN nN nC wW qS nS gB LP).2.2.2.2.2 2)), (wW 3, ck ((F_X1_bringAll fN nN nC wW qS nS gB LP).2.2.2.2.2 3))]) A) ([.ref adN, .ref adC] : List Value).toArray s 0 0 A) (F0 m 4 ls []) := by
    intro nf
    induction nf with
    | zero => intro LPa gBa nCa nSa qSa v2a v3a H locs ls hm; exact absurd hm (Nat.not_lt_zero _)
    | succ nf ih =>
      intro LPa gBa nCa nSa qSa v2a v3a H locs ls hm hF hP hD hS hl
      refine lv_iload_n hx hb dX1_bringAll_4 rfl (lv_at hl 0 rfl) ?_
      refine lv_bipush (v := 96) hx hb dX1_bringAll_5 (by decide) ?_
      refine lv_icmp_ge (tgt := 40) hx hb dX1_bringAll_7 (by decide) (fun c_1 => ?_) (fun c_1 => ?_)
      · refine lv_iload_n hx hb dX1_bringAll_40 rfl (lv_at hl 0 rfl) ?_
        have hF1 : F_X1_bringAll fN nN nC wW qS nS gB LP = (v3a, nCa, qSa, nSa, gBa, LPa) := hF.trans (eX1_bringAll_1 fN nN nC wW qS nS gB LP nf LPa gBa nCa nSa qSa v2a v3a c_1)
        exact xi_ret hx hb hr hlocks hP hS (congrArg (fun o : Int32 × Int32 × (Nat → Nat → Int32) × Int32 × (Nat → Int32) × (Nat → Nat → Int32) => ([(adN, .inr (1, [.ref adNa, .int nN])), (adNa, .inl (cI, 96, .inl fN)), (adC, .inr (3, [.ref adS, .ref adB, .ref adW, .int o.2.1])), (adW, .inl (cL, 4, .inr (.inr (.inr (.inr (fun j => some (wW j))))))), (adS, .inr (5, [.ref (rS 0), .ref (rS 1), .ref (rS 2), .ref (rS 3), .int o.2.2.2.1])), ((rS 0), .inl (cI, 8, .inl (o.2.2.1 0))), ((rS 1), .inl (cI, 8, .inl (o.2.2.1 1))), ((rS 2), .inl (cI, 8, .inl (o.2.2.1 2))), ((rS 3), .inl (cI, 8, .inl (o.2.2.1 3))), (adB, .inr (0, [.int (o.2.2.2.2.1 0), .int (o.2.2.2.2.1 1), .int (o.2.2.2.2.1 2), .int (o.2.2.2.2.1 3), .int (o.2.2.2.2.1 4)])), (wW 0, ck (o.2.2.2.2.2 0)), (wW 1, ck (o.2.2.2.2.2 1)), (wW 2, ck (o.2.2.2.2.2 2)), (wW 3, ck (o.2.2.2.2.2 3))] : va_W)) hF1).symm (congrArg (fun o : Int32 × Int32 × (Nat → Nat → Int32) × Int32 × (Nat → Int32) × (Nat → Nat → Int32) => o.1) hF1).symm dX1_bringAll_41
      · refine lv_iload_n hx hb dX1_bringAll_10 rfl (lv_at hl 1 rfl) ?_
        refine lv_if_lt (tgt := 40) hx hb dX1_bringAll_11 (by decide) (fun c_2 => ?_) (fun c_2 => ?_)
        · refine lv_iload_n hx hb dX1_bringAll_40 rfl (lv_at hl 0 rfl) ?_
          have hF1 : F_X1_bringAll fN nN nC wW qS nS gB LP = (v3a, nCa, qSa, nSa, gBa, LPa) := hF.trans (eX1_bringAll_2 fN nN nC wW qS nS gB LP nf LPa gBa nCa nSa qSa v2a v3a c_1 c_2)
          exact xi_ret hx hb hr hlocks hP hS (congrArg (fun o : Int32 × Int32 × (Nat → Nat → Int32) × Int32 × (Nat → Int32) × (Nat → Nat → Int32) => ([(adN, .inr (1, [.ref adNa, .int nN])), (adNa, .inl (cI, 96, .inl fN)), (adC, .inr (3, [.ref adS, .ref adB, .ref adW, .int o.2.1])), (adW, .inl (cL, 4, .inr (.inr (.inr (.inr (fun j => some (wW j))))))), (adS, .inr (5, [.ref (rS 0), .ref (rS 1), .ref (rS 2), .ref (rS 3), .int o.2.2.2.1])), ((rS 0), .inl (cI, 8, .inl (o.2.2.1 0))), ((rS 1), .inl (cI, 8, .inl (o.2.2.1 1))), ((rS 2), .inl (cI, 8, .inl (o.2.2.1 2))), ((rS 3), .inl (cI, 8, .inl (o.2.2.1 3))), (adB, .inr (0, [.int (o.2.2.2.2.1 0), .int (o.2.2.2.2.1 1), .int (o.2.2.2.2.1 2), .int (o.2.2.2.2.1 3), .int (o.2.2.2.2.1 4)])), (wW 0, ck (o.2.2.2.2.2 0)), (wW 1, ck (o.2.2.2.2.2 1)), (wW 2, ck (o.2.2.2.2.2 2)), (wW 3, ck (o.2.2.2.2.2 3))] : va_W)) hF1).symm (congrArg (fun o : Int32 × Int32 × (Nat → Nat → Int32) × Int32 × (Nat → Int32) × (Nat → Nat → Int32) => o.1) hF1).symm dX1_bringAll_41
        · refine lv_iload_n hx hb dX1_bringAll_14 rfl (lv_at hl 1 rfl) ?_
          refine lv_aload_n hx hb dX1_bringAll_15 rfl (lv_at hl 2 rfl) ?_
          refine va_get (D := D) (ci := 1) (v := .int nN) (C := RX1) (T := TX1) (N := 2) hx hb hts (fun _ h => w_in (inlX1 _ h)) hown hK hP 0 rfl rfl 1 (by decide) (htL _ wd_82) (fun _ h9 => h9) rfl dX1_bringAll_16 ?_
          refine lv_icmp_ge (tgt := 40) hx hb dX1_bringAll_19 (by decide) (fun c_3 => ?_) (fun c_3 => ?_)
          · refine lv_iload_n hx hb dX1_bringAll_40 rfl (lv_at hl 0 rfl) ?_
            have hF1 : F_X1_bringAll fN nN nC wW qS nS gB LP = (v3a, nCa, qSa, nSa, gBa, LPa) := hF.trans (eX1_bringAll_3 fN nN nC wW qS nS gB LP nf LPa gBa nCa nSa qSa v2a v3a c_1 c_2 c_3)
            exact xi_ret hx hb hr hlocks hP hS (congrArg (fun o : Int32 × Int32 × (Nat → Nat → Int32) × Int32 × (Nat → Int32) × (Nat → Nat → Int32) => ([(adN, .inr (1, [.ref adNa, .int nN])), (adNa, .inl (cI, 96, .inl fN)), (adC, .inr (3, [.ref adS, .ref adB, .ref adW, .int o.2.1])), (adW, .inl (cL, 4, .inr (.inr (.inr (.inr (fun j => some (wW j))))))), (adS, .inr (5, [.ref (rS 0), .ref (rS 1), .ref (rS 2), .ref (rS 3), .int o.2.2.2.1])), ((rS 0), .inl (cI, 8, .inl (o.2.2.1 0))), ((rS 1), .inl (cI, 8, .inl (o.2.2.1 1))), ((rS 2), .inl (cI, 8, .inl (o.2.2.1 2))), ((rS 3), .inl (cI, 8, .inl (o.2.2.1 3))), (adB, .inr (0, [.int (o.2.2.2.2.1 0), .int (o.2.2.2.2.1 1), .int (o.2.2.2.2.1 2), .int (o.2.2.2.2.1 3), .int (o.2.2.2.2.1 4)])), (wW 0, ck (o.2.2.2.2.2 0)), (wW 1, ck (o.2.2.2.2.2 1)), (wW 2, ck (o.2.2.2.2.2 2)), (wW 3, ck (o.2.2.2.2.2 3))] : va_W)) hF1).symm (congrArg (fun o : Int32 × Int32 × (Nat → Nat → Int32) × Int32 × (Nat → Int32) × (Nat → Nat → Int32) => o.1) hF1).symm dX1_bringAll_41
          · refine lv_aload_n hx hb dX1_bringAll_22 rfl (lv_at hl 2 rfl) ?_
            refine lv_aload_n hx hb dX1_bringAll_23 rfl (lv_at hl 3 rfl) ?_
            refine lv_iload_n hx hb dX1_bringAll_24 rfl (lv_at hl 1 rfl) ?_
            refine x_wv2 (a := ([(adN, .inr (1, [.ref adNa, .int nN])), (adNa, .inl (cI, 96, .inl fN)), (adC, .inr (3, [.ref adS, .ref adB, .ref adW, .int nCa])), (adW, .inl (cL, 4, .inr (.inr (.inr (.inr (fun j => some (wW j))))))), (adS, .inr (5, [.ref (rS 0), .ref (rS 1), .ref (rS 2), .ref (rS 3), .int nSa])), ((rS 0), .inl (cI, 8, .inl (qSa 0))), ((rS 1), .inl (cI, 8, .inl (qSa 1))), ((rS 2), .inl (cI, 8, .inl (qSa 2))), ((rS 3), .inl (cI, 8, .inl (qSa 3))), (adB, .inr (0, [.int (gBa 0), .int (gBa 1), .int (gBa 2), .int (gBa 3), .int (gBa 4)])), (wW 0, ck (LPa 0)), (wW 1, ck (LPa 1)), (wW 2, ck (LPa 2)), (wW 3, ck (LPa 3))] : va_W)) (t := []) (o0 := (F_X1_bring fN nN nCa wW qSa nSa gBa LPa v2a)) (fun o : Int32 × (Nat → Nat → Int32) × Int32 × (Nat → Int32) × (Nat → Nat → Int32) => ([(adN, .inr (1, [.ref adNa, .int nN])), (adNa, .inl (cI, 96, .inl fN)), (adC, .inr (3, [.ref adS, .ref adB, .ref adW, .int o.1])), (adW, .inl (cL, 4, .inr (.inr (.inr (.inr (fun j => some (wW j))))))), (adS, .inr (5, [.ref (rS 0), .ref (rS 1), .ref (rS 2), .ref (rS 3), .int o.2.2.1])), ((rS 0), .inl (cI, 8, .inl (o.2.1 0))), ((rS 1), .inl (cI, 8, .inl (o.2.1 1))), ((rS 2), .inl (cI, 8, .inl (o.2.1 2))), ((rS 3), .inl (cI, 8, .inl (o.2.1 3))), (adB, .inr (0, [.int (o.2.2.2.1 0), .int (o.2.2.2.1 1), .int (o.2.2.2.1 2), .int (o.2.2.2.1 3), .int (o.2.2.2.1 4)])), (wW 0, ck (o.2.2.2.2 0)), (wW 1, ck (o.2.2.2.2 1)), (wW 2, ck (o.2.2.2.2 2)), (wW 3, ck (o.2.2.2.2 3))] : va_W)) (fun o : Int32 × (Nat → Nat → Int32) × Int32 × (Nat → Int32) × (Nat → Nat → Int32) => ([(adN, .inr (1, [.ref adNa, .int nN])), (adNa, .inl (cI, 96, .inl fN)), (adC, .inr (3, [.ref adS, .ref adB, .ref adW, .int o.1])), (adW, .inl (cL, 4, .inr (.inr (.inr (.inr (fun j => some (wW j))))))), (adS, .inr (5, [.ref (rS 0), .ref (rS 1), .ref (rS 2), .ref (rS 3), .int o.2.2.1])), ((rS 0), .inl (cI, 8, .inl (o.2.1 0))), ((rS 1), .inl (cI, 8, .inl (o.2.1 1))), ((rS 2), .inl (cI, 8, .inl (o.2.1 2))), ((rS 3), .inl (cI, 8, .inl (o.2.1 3))), (adB, .inr (0, [.int (o.2.2.2.1 0), .int (o.2.2.2.1 1), .int (o.2.2.2.1 2), .int (o.2.2.2.1 3), .int (o.2.2.2.1 4)])), (wW 0, ck (o.2.2.2.2 0)), (wW 1, ck (o.2.2.2.2 1)), (wW 2, ck (o.2.2.2.2 2)), (wW 3, ck (o.2.2.2.2 3))] : va_W)) [0, 1, 2, 3, 4, 5, 6, 7, 8, 9, 10, 11, 12, 13] [] (va_runV (As := [.ref adC, .int v2a]) (rest := []) ⟨hx, hb, hml, hown, hts⟩ (c_X1_bring l D cI cL adN adNa adC adW adS rS adB fN nN nCa wW qSa nSa gBa LPa v2a _) (cwV 2 hts (gv_ok (fun _ h => w_in h) wd_218 wd_215 wd_216 wd_217 wd_19) rfl rfl rfl (by decide +kernel) ⟨Nat.le_of_ble_eq_true rfl, Nat.le_of_ble_eq_true rfl⟩) (x_pv hN hK hP hD [0, 1, 2, 3, 4, 5, 6, 7, 8, 9, 10, 11, 12, 13] rfl rfl (ci := 1) (q0 := 0) rfl rfl) rfl rfl hl.1 rfl (lv_room (Nat.le_of_ble_eq_true rfl)) dX1_bringAll_25 ⟨Nat.zero_le _, Nat.zero_le _⟩) hP hD hS hA rfl (fun _ => rfl) (fun _ => rfl) [] rfl (fun _ => rfl) rfl (fun o_4 H locs eo_4 hP hD hS => ?_)
            have hP : va_P D vwCl [(adN, .inr (1, [.ref adNa, .int nN])), (adNa, .inl (cI, 96, .inl fN)), (adC, .inr (3, [.ref adS, .ref adB, .ref adW, .int o_4.1])), (adW, .inl (cL, 4, .inr (.inr (.inr (.inr (fun j => some (wW j))))))), (adS, .inr (5, [.ref (rS 0), .ref (rS 1), .ref (rS 2), .ref (rS 3), .int o_4.2.2.1])), ((rS 0), .inl (cI, 8, .inl (o_4.2.1 0))), ((rS 1), .inl (cI, 8, .inl (o_4.2.1 1))), ((rS 2), .inl (cI, 8, .inl (o_4.2.1 2))), ((rS 3), .inl (cI, 8, .inl (o_4.2.1 3))), (adB, .inr (0, [.int (o_4.2.2.2.1 0), .int (o_4.2.2.2.1 1), .int (o_4.2.2.2.1 2), .int (o_4.2.2.2.1 3), .int (o_4.2.2.2.1 4)])), (wW 0, ck (o_4.2.2.2.2 0)), (wW 1, ck (o_4.2.2.2.2 1)), (wW 2, ck (o_4.2.2.2.2 2)), (wW 3, ck (o_4.2.2.2.2 3))] _ := hP
            have hD : va_D A [(adN, .inr (1, [.ref adNa, .int nN])), (adNa, .inl (cI, 96, .inl fN)), (adC, .inr (3, [.ref adS, .ref adB, .ref adW, .int o_4.1])), (adW, .inl (cL, 4, .inr (.inr (.inr (.inr (fun j => some (wW j))))))), (adS, .inr (5, [.ref (rS 0), .ref (rS 1), .ref (rS 2), .ref (rS 3), .int o_4.2.2.1])), ((rS 0), .inl (cI, 8, .inl (o_4.2.1 0))), ((rS 1), .inl (cI, 8, .inl (o_4.2.1 1))), ((rS 2), .inl (cI, 8, .inl (o_4.2.1 2))), ((rS 3), .inl (cI, 8, .inl (o_4.2.1 3))), (adB, .inr (0, [.int (o_4.2.2.2.1 0), .int (o_4.2.2.2.1 1), .int (o_4.2.2.2.1 2), .int (o_4.2.2.2.1 3), .int (o_4.2.2.2.1 4)])), (wW 0, ck (o_4.2.2.2.2 0)), (wW 1, ck (o_4.2.2.2.2 1)), (wW 2, ck (o_4.2.2.2.2 2)), (wW 3, ck (o_4.2.2.2.2 3))] := hD
            refine lv_aload_n hx hb dX1_bringAll_28 rfl (lv_at hl 2 rfl) ?_
            refine lv_iload_n hx hb dX1_bringAll_29 rfl (lv_at hl 1 rfl) ?_
            refine x_ci [0, 1] (va_runV (As := [.int v2a]) (rest := []) ⟨hx, hb, hml, hown, hts⟩ (c_X1_behindStatement l D cI cL adN adNa fN nN v2a _) (cwV 1 hts (gv_ok (fun _ h => w_in h) wd_179 wd_176 wd_177 wd_178 wd_19) rfl rfl rfl (by decide +kernel) ⟨Nat.le_of_ble_eq_true rfl, Nat.le_of_ble_eq_true rfl⟩) (x_pv hN hK hP hD [0, 1] rfl rfl (ci := 1) (q0 := 0) rfl rfl) rfl rfl hl.1 rfl (lv_room (Nat.le_of_ble_eq_true rfl)) dX1_bringAll_30 ⟨Nat.zero_le _, Nat.zero_le _⟩) hP hD hS hA rfl (fun r_5 H locs er_5 hP hS => ?_)
            refine lv_istore_n (lv' := [(2, .int r_5), (3, .int v3a), (0, .ref adN), (1, .ref adC)]) hx hb dX1_bringAll_33 rfl hl (by decide) rfl (fun ls hl => ?_)
            obtain ⟨x_6, ex_6⟩ : ∃ y : Int32, y = v3a + 1 := ⟨_, rfl⟩
            refine lv_iinc (v := x_6) (lv' := [(3, .int x_6), (2, .int r_5), (0, .ref adN), (1, .ref adC)]) hx hb dX1_bringAll_34 hl (k := 1) rfl (by rw [ex_6]; rfl) (by decide) rfl (fun ls hl => ?_)
            refine lv_goto (tgt := 4) hx hb dX1_bringAll_37 (by decide) ?_
            exact ih o_4.2.2.2.2 o_4.2.2.2.1 o_4.1 o_4.2.2.1 o_4.2.1 r_5 x_6 _ _ _ (by rw [ex_6]; first | exact x_up (by assumption) hm | exact x_up' (by assumption) hm | exact x_up c_1 hm | exact x_up c_3 hm | omega) (hF.trans (eX1_bringAll_4 fN nN nC wW qS nS gB LP nf LPa gBa nCa nSa qSa v2a v3a o_4 r_5 x_6 eo_4 er_5 ex_6 c_1 c_2 c_3)) hP hD hS (lv_sub hl [0, 1, 2, 3] rfl)
  exact loop ((((96 : Int32).toInt - (0 : Int32).toInt).toNat) + 1) LP gB nC nS qS 0 0 _ _ _ (Nat.lt_succ_self _) rfl hP hD hS hl
