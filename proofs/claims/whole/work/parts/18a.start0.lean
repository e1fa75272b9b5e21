/-! the start: the nest's words, the classes, the first world -/
set_option maxRecDepth 20000 in
theorem tb_nF : (nF.map (fun q => Cond.fieldLinkNest q.1 q.2.1 q.2.2.1 q.2.2.2.1 q.2.2.2.2.1 q.2.2.2.2.2)).map some = ([105, 106, 126, 127, 129, 130, 132, 133, 135, 136, 138, 158, 159, 161, 162, 164, 165, 167, 168, 170, 171, 173, 174, 176, 177, 179, 180, 181, 200, 201, 203, 204, 207, 225, 251] : List Nat).map (fun i => lw_tbl[i]?) := by decide +kernel
set_option maxRecDepth 20000 in
theorem tb_nM : (nM.map (fun q => Cond.methodLinkNest q.1 q.2.1 q.2.2.1 q.2.2.2)).map some = ([96, 121, 153, 219, 233, 285, 287, 342, 402, 435, 581, 593] : List Nat).map (fun i => lw_tbl[i]?) := by decide +kernel
theorem tb_AO : Cond.arrayOver (.object RX2) ∈ lw_tbl := List.mem_of_getElem? (i := 151) (by decide +kernel)
theorem nw_ok {args : Array Value} {s : State} (hts : ∀ w ∈ lw_tbl, w.before args s = true) : NW s := ⟨fun q hq => va_Nw.of rfl (hts _ (tb_in tb_nF _ (List.mem_map.mpr ⟨q, hq, rfl⟩))), fun q hq => va_Nw.of rfl (hts _ (tb_in tb_nM _ (List.mem_map.mpr ⟨q, hq, rfl⟩)))⟩
theorem kn_ok {args : Array Value} {s : State} (htL : ∀ w ∈ wsL_law, w.before args s = true) : ∃ (dC : Nat → ClassId) (dI : Nat → Nat → Nat), ∀ (k : Nat) (q : vw_C), vwCl[k]? = some q → u_Kn s q.1 q.2.1 q.2.2 (dC k) (dI k) := by
  obtain ⟨c0, s0, k0⟩ := u_known (C := RX0) (T := TX0) (N := 5) (n := 5) htL inlX0 (htL _ wd_26)
  obtain ⟨c1, s1, k1⟩ := u_known (C := RX1) (T := TX1) (N := 2) (n := 2) htL inlX1 (htL _ wd_18)
  obtain ⟨c2, s2, k2⟩ := u_known (C := RX2) (T := TX2) (N := 8) (n := 8) htL inlX2 (htL _ wd_30)
  obtain ⟨c3, s3, k3⟩ := u_known (C := RX3) (T := TX3) (N := 4) (n := 4) htL inlX3 (htL _ wd_13)
  obtain ⟨c4, s4, k4⟩ := u_known (C := RX4) (T := TX4) (N := 15) (n := 15) htL inlX4 (htL _ wd_22)
  obtain ⟨c5, s5, k5⟩ := u_known (C := RX5) (T := TX5) (N := 5) (n := 5) htL inlX5 (htL _ wd_43)
  obtain ⟨c6, s6, k6⟩ := u_known (C := RX6) (T := TX6) (N := 10) (n := 10) htL inlX6 (htL _ wd_1)
  obtain ⟨c7, s7, k7⟩ := u_known (C := RX7) (T := TX7) (N := 46) (n := 46) htL inlX7 (htL _ wd_4)
  refine ⟨fun k => match k with | 0 => c0 | 1 => c1 | 2 => c2 | 3 => c3 | 4 => c4 | 5 => c5 | 6 => c6 | _ => c7, fun k => match k with | 0 => s0 | 1 => s1 | 2 => s2 | 3 => s3 | 4 => s4 | 5 => s5 | 6 => s6 | _ => s7, ?_⟩
  intro k q hq
  match k, hq with
  | 0, hq => cases hq; exact k0
  | 1, hq => cases hq; exact k1
  | 2, hq => cases hq; exact k2
  | 3, hq => cases hq; exact k3
  | 4, hq => cases hq; exact k4
  | 5, hq => cases hq; exact k5
  | 6, hq => cases hq; exact k6
  | 7, hq => cases hq; exact k7
  | k + 8, hq => simp [vwCl] at hq
def gB0 : Nat → Int32 := fun k => if k = 2 then 30 else 0
def fK0 : Nat → Int32 := fun k => if k = 1 then 1 else if k = 2 then 1 else 0
def oO0 : Nat → Int32 := fun k => if k = 17 then 30 else if k = 37 then 999 else 0
theorem inv0 : INV (fun _ => 0) 0 (fun _ _ => 0) 0 gB0 (fun _ => fK0) (fun _ => 0) 0 (fun _ => 0) (fun _ => 0) 0 (fun _ _ => 0) 0 gB0 (fun _ => fK0) oO0 (fun _ _ => 0) := by
  have h13 : (oO0 13).toInt = 0 := rfl
  have h14 : (oO0 14).toInt = 0 := rfl
  have h23 : (oO0 23).toInt = 0 := rfl
  have h45 : (oO0 45).toInt = 0 := rfl
  have h16 : (oO0 16).toInt = 0 := rfl
  have h17 : (oO0 17).toInt = 30 := rfl
  have h18 : (oO0 18).toInt = 0 := rfl
  refine ⟨⟨⟨rfl, by decide, fun j _ => ⟨rfl, rfl, rfl, rfl⟩⟩, ⟨⟨rfl, rfl, rfl, rfl⟩, rfl⟩, rfl, fun k hk => absurd hk (by rw [h14]; omega)⟩, ⟨by rw [h13]; omega, by rw [h14]; omega, fun l hl => absurd hl (by rw [h13]; omega), ⟨by rw [h16]; omega, by rw [h17]; omega, by rw [h18]; omega⟩, fun k hk => absurd hk (by rw [h14]; omega)⟩, fun j _ => rfl, ⟨rfl, by rw [h23]; omega, fun j hj => absurd hj (by rw [h23]; omega)⟩, ⟨rfl, by rw [h45]; omega, fun j hj => absurd hj (by rw [h45]; omega)⟩, ⟨rfl, rfl⟩, ⟨rfl, Or.inl rfl⟩, fun j _ => Or.inl rfl, fun j _ => Or.inl rfl⟩
