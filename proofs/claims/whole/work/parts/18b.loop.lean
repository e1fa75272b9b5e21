/-! THE LAW'S LOOP -/
set_option maxHeartbeats 4000000 in
set_option maxRecDepth 20000 in
theorem law_loop {p : Program} {l : Launch} {e : Env} {s : State} {m : MethodId} {below : List Frame} {meth : Method} {c : Code} {D : va_G} {cI cL : ClassId} {b L : Nat} {xs : Nat → Int32} {ad : Nat → Nat} {rS rU rR wW wV : Nat → Nat} {adO : Nat} {rO : Nat → Nat} (hL : L ≤ 2560) (C0 : lw_At p s m meth c b L xs) (hN : NW s) (hK : va_K D vwCl (tyA cI cL) s) : ∀ (n i : Nat), i ≤ L + 4 → L + 5 < i + n → ∀ (oM : Nat → Int32) (nC : Int32) (qS : Nat → Nat → Int32) (nS : Int32) (gB : Nat → Int32) (LP : Nat → Nat → Int32) (fN : Nat → Int32) (nN : Int32) (fZ : Nat → Int32) (fY : Nat → Int32) (nE : Int32) (qU : Nat → Nat → Int32) (nU : Int32) (gH : Nat → Int32) (LQ : Nat → Nat → Int32) (bR : Nat → Nat → Int32) (cR : Nat → Int32) (gT : Nat → Int32) (fK : Nat → Int32) (oO : Nat → Int32) (aO : Nat → Nat → Int32) (H : Heap) (locs : List Loc) (ls : Array Slot), INV oM nC qS nS gB LP fN nN fZ fY nE qU nU gH LQ oO aO → va_P D vwCl ((LWc cI cL ad rS rU rR wW wV oM nC qS nS gB LP fN nN fZ fY nE qU nU gH LQ bR cR gT fK) ++ (LWm cI adO rO oO aO)) H → va_D (fun q : Nat => s.heap.size ≤ q) ((LWc cI cL ad rS rU rR wW wV oM nC qS nS gB LP fN nN fZ fY nE qU nU gH LQ bR cR gT fK) ++ (LWm cI adO rO oO aO)) → va_S (fun q : Nat => s.heap.size ≤ q) s.heap H locs → lv_has ls 4 [(0, .ref b), (1, .ref (ad 0)), (2, .ref adO), (3, .int (nI i))] → W p l e room_1 s m #[Value.ref b] below meth c H locs 600000 7302250 (lw_Z below #[Value.ref b] s) (F0 m 18 ls []) := by
  obtain ⟨hx, hb, hr, hml, hown, hts, hX, hbl, hlocks, hgv⟩ := id C0
  have hown : s.vm.findClass RL = some m.cls := hown
  have hbA : ¬ (fun q : Nat => s.heap.size ≤ q) b := Nat.not_le.mpr hbl
  intro n
  induction n with
  | zero =>
    intro i h1 h2
    exact absurd h2 (by omega)
  | succ n ih =>
    intro i hi hn oM nC qS nS gB LP fN nN fZ fY nE qU nU gH LQ bR cR gT fK oO aO H locs ls hI hP hD hS hl
    have kk : LKK p l e s m below meth c D cI cL b ad rS rU rR wW wV adO rO ls := by
      by_cases h5 : i + 5 ≤ L + 4
      · intro oM nC qS nS gB LP fN nN fZ fY nE qU nU gH LQ bR cR gT fK oO aO H locs hI hP hD hS
        obtain ⟨x, ex⟩ : ∃ x : Int32, x = nI i + 5 := ⟨_, rfl⟩
        refine lv_iinc (v := x) (lv' := [(3, .int x), (0, .ref b), (1, .ref (ad 0)), (2, .ref adO)]) hx hb dL_law_1077 hl (k := 3) rfl (by rw [ex]; rfl) (by decide) rfl (fun ls hl => ?_)
        refine lv_goto (tgt := 18) hx hb dL_law_1080 (by decide) ?_
        have e5 : x = nI (i + 5) := ex.trans (nI_add i 5)
        subst e5
        exact ih (i + 5) h5 (by omega) oM nC qS nS gB LP fN nN fZ fY nE qU nU gH LQ bR cR gT fK oO aO H locs ls hI hP hD hS (lv_sub hl [1, 2, 3, 0] rfl)
      · intro oM nC qS nS gB LP fN nN fZ fY nE qU nU gH LQ bR cR gT fK oO aO H locs hI hP hD hS
        obtain ⟨x, ex⟩ : ∃ x : Int32, x = nI i + 5 := ⟨_, rfl⟩
        refine lv_iinc (v := x) (lv' := [(3, .int x), (0, .ref b), (1, .ref (ad 0)), (2, .ref adO)]) hx hb dL_law_1077 hl (k := 3) rfl (by rw [ex]; rfl) (by decide) rfl (fun ls hl => ?_)
        refine lv_goto (tgt := 18) hx hb dL_law_1080 (by decide) ?_
        have e5 : x = nI (i + 5) := ex.trans (nI_add i 5)
        refine lv_iload_n hx hb dL_law_18 rfl (lv_at hl 0 rfl) ?_
        refine lv_aload_n hx hb dL_law_19 rfl (lv_at hl 1 rfl) ?_
        refine va_slen hx hb hX hbl hbA hS dL_law_20 ?_
        refine lv_iconst (v := 5) hx hb dL_law_21 (by decide) ?_
        refine lv_isub hx hb dL_law_22 ?_
        refine lv_icmp_gt (tgt := 1083) hx hb dL_law_23 (by decide) (fun _ => ?_) (fun c_1 => ?_)
        · refine lv_iconst (v := 1) hx hb dL_law_1083 (by decide) ?_
          refine va_forget (fun q hq => hS.2.2 q hq) ?_
          exact lw_ret hx hb hr hlocks dL_law_1084
        · have h9 := i_nlt c_1
          rw [e5, nI_toInt (by omega), i_sub (x := Int32.ofNat L - 5) rfl (by rw [show (Int32.ofNat L).toInt = (L : Int) from nI_toInt (by omega), show (5 : Int32).toInt = 5 from rfl]; omega) (by rw [show (Int32.ofNat L).toInt = (L : Int) from nI_toInt (by omega), show (5 : Int32).toInt = 5 from rfl]; omega), show (Int32.ofNat L).toInt = (L : Int) from nI_toInt (by omega), show (5 : Int32).toInt = 5 from rfl] at h9
          exact absurd h9 (by omega)
    refine lv_iload_n hx hb dL_law_18 rfl (lv_at hl 3 rfl) ?_
    refine lv_aload_n hx hb dL_law_19 rfl (lv_at hl 0 rfl) ?_
    refine va_slen hx hb hX hbl hbA hS dL_law_20 ?_
    refine lv_iconst (v := 5) hx hb dL_law_21 (by decide) ?_
    refine lv_isub hx hb dL_law_22 ?_
    refine lv_icmp_gt (tgt := 1083) hx hb dL_law_23 (by decide) (fun _ => ?_) (fun c_1 => ?_)
    · refine lv_iconst (v := 1) hx hb dL_law_1083 (by decide) ?_
      refine va_forget (fun q hq => hS.2.2 q hq) ?_
      exact lw_ret hx hb hr hlocks dL_law_1084
    · have h9 := i_nlt c_1
      rw [nI_toInt (by omega), i_sub (x := Int32.ofNat L - 5) rfl (by rw [show (Int32.ofNat L).toInt = (L : Int) from nI_toInt (by omega), show (5 : Int32).toInt = 5 from rfl]; omega) (by rw [show (Int32.ofNat L).toInt = (L : Int) from nI_toInt (by omega), show (5 : Int32).toInt = 5 from rfl]; omega), show (Int32.ofNat L).toInt = (L : Int) from nI_toInt (by omega), show (5 : Int32).toInt = 5 from rfl] at h9
      have hi0 : vp_in (nI i) L := vp_in_nI (by omega) (by omega)
      have hi1 : vp_in (nI i + 1) L := by rw [nI_1]; exact vp_in_nI (by omega) (by omega)
      have hi2 : vp_in (nI i + 2) L := by rw [nI_2]; exact vp_in_nI (by omega) (by omega)
      have hi3 : vp_in (nI i + 3) L := by rw [nI_3]; exact vp_in_nI (by omega) (by omega)
      have hi4 : vp_in (nI i + 4) L := by rw [nI_4]; exact vp_in_nI (by omega) (by omega)
      refine lv_aload_n hx hb dL_law_26 rfl (lv_at hl 0 rfl) ?_
      refine lv_iload_n hx hb dL_law_27 rfl (lv_at hl 3 rfl) ?_
      refine va_sld hx hb hX hbl hbA hS hi0 dL_law_28 ?_
      refine lv_bipush (v := 63) hx hb dL_law_29 (by decide) ?_
      refine lv_iand hx hb dL_law_31 ?_
      refine lv_topi (fun v ev => ?_)
      by_cases hv : v.toInt < 0 ∨ 33 < v.toInt
      · refine lv_tableOut (tgt := 1077) hx hb dL_law_32 hv (by decide) ?_
        exact kk oM nC qS nS gB LP fN nN fZ fY nE qU nU gH LQ bR cR gT fK oO aO H locs hI hP hD hS
      · obtain ⟨k, hk, rfl⟩ : ∃ k : Nat, k < 34 ∧ v = nI k := ⟨v.toInt.toNat, by omega, x_nIt (by omega)⟩
        match k, hk with
        | 0, _ =>
          refine lv_tableIn (off := 152) (tgt := 184) hx hb dL_law_32 (by decide) (by decide) rfl (by decide) ?_
          exact law_feed C0 hN hK hi1 hi2 hi3 hi4 hI hP hD hS hl kk
        | 1, _ =>
          refine lv_tableIn (off := 175) (tgt := 207) hx hb dL_law_32 (by decide) (by decide) rfl (by decide) ?_
          exact law_train C0 hN hK hi1 hi2 hi3 hi4 hI hP hD hS hl kk
        | 2, _ =>
          refine lv_tableIn (off := 188) (tgt := 220) hx hb dL_law_32 (by decide) (by decide) rfl (by decide) ?_
          exact law_line C0 hN hK hi1 hi2 hi3 hi4 hI hP hD hS hl kk
        | 3, _ =>
          refine lv_tableIn (off := 221) (tgt := 253) hx hb dL_law_32 (by decide) (by decide) rfl (by decide) ?_
          exact law_holder C0 hN hK hi1 hi2 hi3 hi4 hI hP hD hS hl kk
        | 4, _ =>
          refine lv_tableIn (off := 244) (tgt := 276) hx hb dL_law_32 (by decide) (by decide) rfl (by decide) ?_
          exact law_looker C0 hN hK hi1 hi2 hi3 hi4 hI hP hD hS hl kk
        | 5, _ =>
          refine lv_tableIn (off := 277) (tgt := 309) hx hb dL_law_32 (by decide) (by decide) rfl (by decide) ?_
          exact law_takes C0 hN hK hi1 hi2 hi3 hi4 hI hP hD hS hl kk
        | 6, _ =>
          refine lv_tableIn (off := 310) (tgt := 342) hx hb dL_law_32 (by decide) (by decide) rfl (by decide) ?_
          exact law_shows C0 hN hK hi1 hi2 hi3 hi4 hI hP hD hS hl kk
        | 7, _ =>
          refine lv_tableIn (off := 333) (tgt := 365) hx hb dL_law_32 (by decide) (by decide) rfl (by decide) ?_
          exact law_tilt C0 hN hK hi1 hi2 hi3 hi4 hI hP hD hS hl kk
        | 8, _ =>
          refine lv_tableIn (off := 356) (tgt := 388) hx hb dL_law_32 (by decide) (by decide) rfl (by decide) ?_
          exact law_base C0 hN hK hi1 hi2 hi3 hi4 hI hP hD hS hl kk
        | 9, _ =>
          refine lv_tableIn (off := 379) (tgt := 411) hx hb dL_law_32 (by decide) (by decide) rfl (by decide) ?_
          exact law_sit C0 hN hK hi1 hi2 hi3 hi4 hI hP hD hS hl kk
        | 10, _ =>
          refine lv_tableIn (off := 412) (tgt := 444) hx hb dL_law_32 (by decide) (by decide) rfl (by decide) ?_
          exact law_read C0 hN hK hi1 hi2 hi3 hi4 hI hP hD hS hl kk
        | 11, _ =>
          refine lv_tableIn (off := 445) (tgt := 477) hx hb dL_law_32 (by decide) (by decide) rfl (by decide) ?_
          exact law_away C0 hN hK hi1 hi2 hi3 hi4 hI hP hD hS hl kk
        | 12, _ =>
          refine lv_tableIn (off := 478) (tgt := 510) hx hb dL_law_32 (by decide) (by decide) rfl (by decide) ?_
          exact law_page C0 hN hK hi1 hi2 hi3 hi4 hI hP hD hS hl kk
        | 13, _ =>
          refine lv_tableIn (off := 491) (tgt := 523) hx hb dL_law_32 (by decide) (by decide) rfl (by decide) ?_
          exact law_most C0 hN hK hi1 hi2 hi3 hi4 hI hP hD hS hl kk
        | 14, _ =>
          refine lv_tableIn (off := 514) (tgt := 546) hx hb dL_law_32 (by decide) (by decide) rfl (by decide) ?_
          exact law_plan C0 hN hK hi1 hi2 hi3 hi4 hI hP hD hS hl kk
        | 15, _ =>
          refine lv_tableIn (off := 547) (tgt := 579) hx hb dL_law_32 (by decide) (by decide) rfl (by decide) ?_
          exact law_by C0 hN hK hi1 hi2 hi3 hi4 hI hP hD hS hl kk
        | 16, _ =>
          refine lv_tableIn (off := 580) (tgt := 612) hx hb dL_law_32 (by decide) (by decide) rfl (by decide) ?_
          exact law_rest C0 hN hK hi1 hi2 hi3 hi4 hI hP hD hS hl kk
        | 17, _ =>
          refine lv_tableIn (off := 613) (tgt := 645) hx hb dL_law_32 (by decide) (by decide) rfl (by decide) ?_
          exact law_first C0 hN hK hi1 hi2 hi3 hi4 hI hP hD hS hl kk
        | 18, _ =>
          refine lv_tableIn (off := 636) (tgt := 668) hx hb dL_law_32 (by decide) (by decide) rfl (by decide) ?_
          exact law_hold C0 hN hK hi1 hi2 hi3 hi4 hI hP hD hS hl kk
        | 19, _ =>
          refine lv_tableIn (off := 649) (tgt := 681) hx hb dL_law_32 (by decide) (by decide) rfl (by decide) ?_
          exact law_bend C0 hN hK hi1 hi2 hi3 hi4 hI hP hD hS hl kk
        | 20, _ =>
          refine lv_tableIn (off := 662) (tgt := 694) hx hb dL_law_32 (by decide) (by decide) rfl (by decide) ?_
          exact law_early C0 hN hK hi1 hi2 hi3 hi4 hI hP hD hS hl kk
        | 21, _ =>
          refine lv_tableIn (off := 685) (tgt := 717) hx hb dL_law_32 (by decide) (by decide) rfl (by decide) ?_
          exact law_seat C0 hN hK hi1 hi2 hi3 hi4 hI hP hD hS hl kk
        | 22, _ =>
          refine lv_tableIn (off := 708) (tgt := 740) hx hb dL_law_32 (by decide) (by decide) rfl (by decide) ?_
          exact law_more C0 hN hK hi1 hi2 hi3 hi4 hI hP hD hS hl kk
        | 23, _ =>
          refine lv_tableIn (off := 741) (tgt := 773) hx hb dL_law_32 (by decide) (by decide) rfl (by decide) ?_
          exact law_both C0 hN hK hi1 hi2 hi3 hi4 hI hP hD hS hl kk
        | 24, _ =>
          refine lv_tableIn (off := 774) (tgt := 806) hx hb dL_law_32 (by decide) (by decide) rfl (by decide) ?_
          exact law_chance C0 hN hK hi1 hi2 hi3 hi4 hI hP hD hS hl kk
        | 25, _ =>
          refine lv_tableIn (off := 818) (tgt := 850) hx hb dL_law_32 (by decide) (by decide) rfl (by decide) ?_
          exact law_missed C0 hN hK hi1 hi2 hi3 hi4 hI hP hD hS hl kk
        | 26, _ =>
          refine lv_tableIn (off := 841) (tgt := 873) hx hb dL_law_32 (by decide) (by decide) rfl (by decide) ?_
          exact law_left C0 hN hK hi1 hi2 hi3 hi4 hI hP hD hS hl kk
        | 27, _ =>
          refine lv_tableIn (off := 864) (tgt := 896) hx hb dL_law_32 (by decide) (by decide) rfl (by decide) ?_
          exact law_kinds C0 hN hK hi1 hi2 hi3 hi4 hI hP hD hS hl kk
        | 28, _ =>
          refine lv_tableIn (off := 897) (tgt := 929) hx hb dL_law_32 (by decide) (by decide) rfl (by decide) ?_
          exact law_row C0 hN hK hi1 hi2 hi3 hi4 hI hP hD hS hl kk
        | 29, _ =>
          refine lv_tableIn (off := 920) (tgt := 952) hx hb dL_law_32 (by decide) (by decide) rfl (by decide) ?_
          exact law_judge C0 hN hK hi1 hi2 hi3 hi4 hI hP hD hS hl kk
        | 30, _ =>
          refine lv_tableIn (off := 943) (tgt := 975) hx hb dL_law_32 (by decide) (by decide) rfl (by decide) ?_
          exact law_seeds C0 hN hK hi1 hi2 hi3 hi4 hI hP hD hS hl kk
        | 31, _ =>
          refine lv_tableIn (off := 996) (tgt := 1028) hx hb dL_law_32 (by decide) (by decide) rfl (by decide) ?_
          exact law_image C0 hN hK hi1 hi2 hi3 hi4 hI hP hD hS hl kk
        | 32, _ =>
          refine lv_tableIn (off := 1009) (tgt := 1041) hx hb dL_law_32 (by decide) (by decide) rfl (by decide) ?_
          exact law_restore C0 hN hK hi1 hi2 hi3 hi4 hI hP hD hS hl kk
        | 33, _ =>
          refine lv_tableIn (off := 1022) (tgt := 1054) hx hb dL_law_32 (by decide) (by decide) rfl (by decide) ?_
          exact law_count C0 hN hK hi1 hi2 hi3 hi4 hI hP hD hS hl kk
        | k + 34, hk => exact absurd hk (by omega)
