/-! train: one, two numbers read; all numbers of a statement -/
theorem nI_2 (a : Nat) : nI a + 2 = nI (a + 2) := nI_add a 2
theorem nI_3 (a : Nat) : nI a + 3 = nI (a + 3) := nI_add a 3
theorem nI_4 (a : Nat) : nI a + 4 = nI (a + 4) := nI_add a 4
theorem dc_t {g : Nat → Bool} {m k : Nat} (h : g k = true) : dc g (m + 1) k = dc g m (k + 1) := if_pos h
theorem dc_f {g : Nat → Bool} {m k : Nat} (h : g k = false) : dc g (m + 1) k = k := if_neg (by rw [h]; decide)
section RN
variable {fN : Nat → Int32} {nN : Int32} {o : Nat → Int32} {a : Nat → Nat → Int32}
theorem tO.up (h : tO fN nN o a) (x : Int32) (w : Nat → Int32) : tO fN nN (upd o 24 x) (va_up a 22 w) := ⟨h.1, h.2.1, h.2.2⟩
theorem rn_g {P lo hi : Nat} {p0 : Int32} (h : tO fN nN o a) (h24 : o 24 = nI P) (hP : P + hi < 1000) (hlo : lo ≤ hi) : F_X7_readsNumber o a p0 (nI lo) (nI hi) = (if dc (isD fN nN P) hi 0 < lo then 0 else 1, nI (P + dc (isD fN nN P) hi 0), upd (a 22) p0.toNatClampNeg (ac fN nN P hi 0 0)) := by
  unfold F_X7_readsNumber
  rw [h24]
  exact rn_L h hP hlo hi 0 (by omega) _ 0 (by rw [nI_toInt (by omega), show (0 : Int32).toInt = 0 from rfl]; omega)
theorem ac_f {P m k : Nat} {v : Int32} (h : isD fN nN P k = false) : ac fN nN P (m + 1) k v = v := if_neg (by rw [h]; decide)
theorem rn1t {P b : Nat} (h : tO fN nN o a) (h24 : o 24 = nI P) (hP : P < 950) (hb : b < 950) (hD : isD fN nN P 0 = true) : F_X7_readsNumber o a (nI b) 1 1 = (1, nI (P + 1), upd (a 22) b (F_X1_digitAt fN nN (nI P))) := by
  have e := rn_g (p0 := nI b) (lo := 1) (hi := 1) h h24 (by omega) (by omega)
  rw [dc_t hD, nI_clamp (by omega), nu_1 hD] at e
  exact e
theorem rn1f {P b : Nat} (h : tO fN nN o a) (h24 : o 24 = nI P) (hP : P < 950) (hb : b < 950) (hD : isD fN nN P 0 = false) : F_X7_readsNumber o a (nI b) 1 1 = (0, nI P, upd (a 22) b 0) := by
  have e := rn_g (p0 := nI b) (lo := 1) (hi := 1) h h24 (by omega) (by omega)
  rw [dc_f hD, nI_clamp (by omega), ac_f hD] at e
  exact e
theorem rn2t {P b : Nat} (h : tO fN nN o a) (h24 : o 24 = nI P) (hP : P < 950) (hb : b < 950) (hD : isD fN nN P 0 = true) (hE : isD fN nN P 1 = true) : F_X7_readsNumber o a (nI b) 2 2 = (1, nI (P + 2), upd (a 22) b (F_X1_numberAt fN nN (nI P))) := by
  have e := rn_g (p0 := nI b) (lo := 2) (hi := 2) h h24 (by omega) (by omega)
  rw [dc_t hD, dc_t hE, nI_clamp (by omega), nu_2 hD] at e
  exact e
theorem rn2g {P b : Nat} (h : tO fN nN o a) (h24 : o 24 = nI P) (hP : P < 950) (hb : b < 950) (hD : isD fN nN P 0 = true) (hE : isD fN nN P 1 = false) : F_X7_readsNumber o a (nI b) 2 2 = (0, nI (P + 1), upd (a 22) b (F_X1_numberAt fN nN (nI P))) := by
  have e := rn_g (p0 := nI b) (lo := 2) (hi := 2) h h24 (by omega) (by omega)
  rw [dc_t hD, dc_f hE, nI_clamp (by omega), nu_2 hD] at e
  exact e
theorem rn2f {P b : Nat} (h : tO fN nN o a) (h24 : o 24 = nI P) (hP : P < 950) (hb : b < 950) (hD : isD fN nN P 0 = false) : F_X7_readsNumber o a (nI b) 2 2 = (0, nI P, upd (a 22) b 0) := by
  have e := rn_g (p0 := nI b) (lo := 2) (hi := 2) h h24 (by omega) (by omega)
  rw [dc_f hD, nI_clamp (by omega), ac_f hD] at e
  exact e
theorem rn3t {P b : Nat} (h : tO fN nN o a) (h24 : o 24 = nI P) (hP : P < 950) (hb : b < 950) (hD : isD fN nN P 0 = true) (hE : isD fN nN P 1 = true) : F_X7_readsNumber o a (nI b) 1 2 = (1, nI (P + 2), upd (a 22) b (F_X1_numberAt fN nN (nI P))) := by
  have e := rn_g (p0 := nI b) (lo := 1) (hi := 2) h h24 (by omega) (by omega)
  rw [dc_t hD, dc_t hE, nI_clamp (by omega), nu_2 hD] at e
  exact e
theorem rn3g {P b : Nat} (h : tO fN nN o a) (h24 : o 24 = nI P) (hP : P < 950) (hb : b < 950) (hD : isD fN nN P 0 = true) (hE : isD fN nN P 1 = false) : F_X7_readsNumber o a (nI b) 1 2 = (1, nI (P + 1), upd (a 22) b (F_X1_numberAt fN nN (nI P))) := by
  have e := rn_g (p0 := nI b) (lo := 1) (hi := 2) h h24 (by omega) (by omega)
  rw [dc_t hD, dc_f hE, nI_clamp (by omega), nu_2 hD] at e
  exact e
theorem rn3f {P b : Nat} (h : tO fN nN o a) (h24 : o 24 = nI P) (hP : P < 950) (hb : b < 950) (hD : isD fN nN P 0 = false) : F_X7_readsNumber o a (nI b) 1 2 = (0, nI P, upd (a 22) b 0) := by
  have e := rn_g (p0 := nI b) (lo := 1) (hi := 2) h h24 (by omega) (by omega)
  rw [dc_f hD, nI_clamp (by omega), ac_f hD] at e
  exact e
theorem u_3 {f : Nat → Int32} {b : Nat} {x0 x1 x2 : Int32} : (∀ j, j < b → upd (upd (upd f b x0) (b + 1) x1) (b + 2) x2 j = f j) ∧ upd (upd (upd f b x0) (b + 1) x1) (b + 2) x2 b = x0 ∧ upd (upd (upd f b x0) (b + 1) x1) (b + 2) x2 (b + 1) = x1 ∧ upd (upd (upd f b x0) (b + 1) x1) (b + 2) x2 (b + 2) = x2 := by
  refine ⟨fun j hj => ?_, ?_, ?_, pk_us⟩
  · rw [pk_un (by omega), pk_un (by omega), pk_un (by omega)]
  · rw [pk_un (by omega), pk_un (by omega), pk_us]
  · rw [pk_un (by omega), pk_us]
theorem u_4 {f : Nat → Int32} {b : Nat} {x0 x1 x2 x3 : Int32} : (∀ j, j < b → upd (upd (upd (upd f b x0) (b + 1) x1) (b + 2) x2) (b + 3) x3 j = f j) ∧ upd (upd (upd (upd f b x0) (b + 1) x1) (b + 2) x2) (b + 3) x3 b = x0 ∧ upd (upd (upd (upd f b x0) (b + 1) x1) (b + 2) x2) (b + 3) x3 (b + 1) = x1 ∧ upd (upd (upd (upd f b x0) (b + 1) x1) (b + 2) x2) (b + 3) x3 (b + 2) = x2 ∧ upd (upd (upd (upd f b x0) (b + 1) x1) (b + 2) x2) (b + 3) x3 (b + 3) = x3 := by
  refine ⟨fun j hj => ?_, ?_, ?_, ?_, pk_us⟩
  · rw [pk_un (by omega), pk_un (by omega), pk_un (by omega), pk_un (by omega)]
  · rw [pk_un (by omega), pk_un (by omega), pk_un (by omega), pk_us]
  · rw [pk_un (by omega), pk_un (by omega), pk_us]
  · rw [pk_un (by omega), pk_us]
set_option maxHeartbeats 1000000 in
theorem ra_104 {Q b : Nat} (h : tO fN nN o a) (hQ : Q < 900) (hb : b < 900) (h24 : o 24 = nI Q) : (F_X7_readsAll o a 104 (nI b)).1 = (if dc (isD fN nN Q) 4 0 < 4 then 0 else 1) ∧ (F_X7_readsAll o a 104 (nI b)).2.1 = nI (Q + dc (isD fN nN Q) 4 0) ∧ (4 ≤ dc (isD fN nN Q) 4 0 → (∀ j, j < b → (F_X7_readsAll o a 104 (nI b)).2.2 j = a 22 j) ∧ (F_X7_readsAll o a 104 (nI b)).2.2 (b) = F_X1_digitAt fN nN (nI Q) ∧ (F_X7_readsAll o a 104 (nI b)).2.2 (b + 1) = F_X1_digitAt fN nN (nI (Q + 1)) ∧ (F_X7_readsAll o a 104 (nI b)).2.2 (b + 2) = F_X1_numberAt fN nN (nI (Q + 2))) := by
  cases D0 : isD fN nN Q 0
  ·
    have e := eX7_readsAll_1 o a 104 (nI b) (0, nI (Q), upd (a 22) (b) (0)) _ rfl (show F_X7_readsNumber o a (nI (b)) 1 1 = (0, nI (Q), upd (a 22) (b) (0)) from rn1f h h24 (by omega) (by omega) D0).symm rfl rfl
    have d1 : dc (isD fN nN Q) 4 0 = 0 := by rw [ dc_f D0]
    rw [e, d1]
    exact ⟨rfl, rfl, fun q => absurd q (by omega)⟩
  ·
    have h1 : tO fN nN (upd o 24 (nI (Q + 1))) (va_up a 22 (upd (a 22) (b) (F_X1_digitAt fN nN (nI Q)))) := h.up _ _
    cases D1 : isD fN nN Q 1
    ·
      have e := eX7_readsAll_2 o a 104 (nI b) (1, nI (Q + 1), upd (a 22) (b) (F_X1_digitAt fN nN (nI Q))) _ (nI (b + 1)) (0, nI (Q + 1), upd (upd (a 22) (b) (F_X1_digitAt fN nN (nI Q))) (b + 1) (0)) _ rfl (show F_X7_readsNumber o a (nI (b)) 1 1 = (1, nI (Q + 1), upd (a 22) (b) (F_X1_digitAt fN nN (nI Q))) from rn1t h h24 (by omega) (by omega) D0).symm (nI_1 b).symm rfl (show F_X7_readsNumber (upd o 24 (nI (Q + 1))) (va_up a 22 (upd (a 22) (b) (F_X1_digitAt fN nN (nI Q)))) (nI (b + 1)) 1 1 = (0, nI (Q + 1), upd (upd (a 22) (b) (F_X1_digitAt fN nN (nI Q))) (b + 1) (0)) from rn1f h1 rfl (by omega) (by omega) D1).symm rfl (show ¬ (1 : Int32) = 0 by decide) rfl
      have d1 : dc (isD fN nN Q) 4 0 = 1 := by rw [dc_t D0, dc_f D1]
      rw [e, d1]
      exact ⟨rfl, rfl, fun q => absurd q (by omega)⟩
    ·
      have h2 : tO fN nN (upd o 24 (nI (Q + 2))) (va_up a 22 (upd (upd (a 22) (b) (F_X1_digitAt fN nN (nI Q))) (b + 1) (F_X1_digitAt fN nN (nI (Q + 1))))) := h.up _ _
      cases D2 : isD fN nN Q 2
      ·
        have e := eX7_readsAll_3 o a 104 (nI b) (1, nI (Q + 1), upd (a 22) (b) (F_X1_digitAt fN nN (nI Q))) _ (nI (b + 1)) (1, nI (Q + 2), upd (upd (a 22) (b) (F_X1_digitAt fN nN (nI Q))) (b + 1) (F_X1_digitAt fN nN (nI (Q + 1)))) _ (nI (b + 2)) (0, nI (Q + 2), upd (upd (upd (a 22) (b) (F_X1_digitAt fN nN (nI Q))) (b + 1) (F_X1_digitAt fN nN (nI (Q + 1)))) (b + 2) (0)) _ rfl (show F_X7_readsNumber o a (nI (b)) 1 1 = (1, nI (Q + 1), upd (a 22) (b) (F_X1_digitAt fN nN (nI Q))) from rn1t h h24 (by omega) (by omega) D0).symm (nI_1 b).symm rfl (show F_X7_readsNumber (upd o 24 (nI (Q + 1))) (va_up a 22 (upd (a 22) (b) (F_X1_digitAt fN nN (nI Q)))) (nI (b + 1)) 1 1 = (1, nI (Q + 2), upd (upd (a 22) (b) (F_X1_digitAt fN nN (nI Q))) (b + 1) (F_X1_digitAt fN nN (nI (Q + 1)))) from rn1t h1 rfl (by omega) (by omega) D1).symm (nI_2 b).symm rfl (show F_X7_readsNumber (upd o 24 (nI (Q + 2))) (va_up a 22 (upd (upd (a 22) (b) (F_X1_digitAt fN nN (nI Q))) (b + 1) (F_X1_digitAt fN nN (nI (Q + 1))))) (nI (b + 2)) 2 2 = (0, nI (Q + 2), upd (upd (upd (a 22) (b) (F_X1_digitAt fN nN (nI Q))) (b + 1) (F_X1_digitAt fN nN (nI (Q + 1)))) (b + 2) (0)) from rn2f h2 rfl (by omega) (by omega) D2).symm rfl (show ¬ (1 : Int32) = 0 by decide) (show ¬ (1 : Int32) = 0 by decide) rfl
        have d1 : dc (isD fN nN Q) 4 0 = 2 := by rw [dc_t D0, dc_t D1, dc_f D2]
        rw [e, d1]
        exact ⟨rfl, rfl, fun q => absurd q (by omega)⟩
      ·
        cases D3 : isD fN nN Q 3
        ·
          have e := eX7_readsAll_3 o a 104 (nI b) (1, nI (Q + 1), upd (a 22) (b) (F_X1_digitAt fN nN (nI Q))) _ (nI (b + 1)) (1, nI (Q + 2), upd (upd (a 22) (b) (F_X1_digitAt fN nN (nI Q))) (b + 1) (F_X1_digitAt fN nN (nI (Q + 1)))) _ (nI (b + 2)) (0, nI (Q + 3), upd (upd (upd (a 22) (b) (F_X1_digitAt fN nN (nI Q))) (b + 1) (F_X1_digitAt fN nN (nI (Q + 1)))) (b + 2) (F_X1_numberAt fN nN (nI (Q + 2)))) _ rfl (show F_X7_readsNumber o a (nI (b)) 1 1 = (1, nI (Q + 1), upd (a 22) (b) (F_X1_digitAt fN nN (nI Q))) from rn1t h h24 (by omega) (by omega) D0).symm (nI_1 b).symm rfl (show F_X7_readsNumber (upd o 24 (nI (Q + 1))) (va_up a 22 (upd (a 22) (b) (F_X1_digitAt fN nN (nI Q)))) (nI (b + 1)) 1 1 = (1, nI (Q + 2), upd (upd (a 22) (b) (F_X1_digitAt fN nN (nI Q))) (b + 1) (F_X1_digitAt fN nN (nI (Q + 1)))) from rn1t h1 rfl (by omega) (by omega) D1).symm (nI_2 b).symm rfl (show F_X7_readsNumber (upd o 24 (nI (Q + 2))) (va_up a 22 (upd (upd (a 22) (b) (F_X1_digitAt fN nN (nI Q))) (b + 1) (F_X1_digitAt fN nN (nI (Q + 1))))) (nI (b + 2)) 2 2 = (0, nI (Q + 3), upd (upd (upd (a 22) (b) (F_X1_digitAt fN nN (nI Q))) (b + 1) (F_X1_digitAt fN nN (nI (Q + 1)))) (b + 2) (F_X1_numberAt fN nN (nI (Q + 2)))) from rn2g h2 rfl (by omega) (by omega) D2 D3).symm rfl (show ¬ (1 : Int32) = 0 by decide) (show ¬ (1 : Int32) = 0 by decide) rfl
          have d1 : dc (isD fN nN Q) 4 0 = 3 := by rw [dc_t D0, dc_t D1, dc_t D2, dc_f D3]
          rw [e, d1]
          exact ⟨rfl, rfl, fun q => absurd q (by omega)⟩
        ·
          have e := eX7_readsAll_4 o a 104 (nI b) (1, nI (Q + 1), upd (a 22) (b) (F_X1_digitAt fN nN (nI Q))) _ (nI (b + 1)) (1, nI (Q + 2), upd (upd (a 22) (b) (F_X1_digitAt fN nN (nI Q))) (b + 1) (F_X1_digitAt fN nN (nI (Q + 1)))) _ (nI (b + 2)) (1, nI (Q + 4), upd (upd (upd (a 22) (b) (F_X1_digitAt fN nN (nI Q))) (b + 1) (F_X1_digitAt fN nN (nI (Q + 1)))) (b + 2) (F_X1_numberAt fN nN (nI (Q + 2)))) _ rfl (show F_X7_readsNumber o a (nI (b)) 1 1 = (1, nI (Q + 1), upd (a 22) (b) (F_X1_digitAt fN nN (nI Q))) from rn1t h h24 (by omega) (by omega) D0).symm (nI_1 b).symm rfl (show F_X7_readsNumber (upd o 24 (nI (Q + 1))) (va_up a 22 (upd (a 22) (b) (F_X1_digitAt fN nN (nI Q)))) (nI (b + 1)) 1 1 = (1, nI (Q + 2), upd (upd (a 22) (b) (F_X1_digitAt fN nN (nI Q))) (b + 1) (F_X1_digitAt fN nN (nI (Q + 1)))) from rn1t h1 rfl (by omega) (by omega) D1).symm (nI_2 b).symm rfl (show F_X7_readsNumber (upd o 24 (nI (Q + 2))) (va_up a 22 (upd (upd (a 22) (b) (F_X1_digitAt fN nN (nI Q))) (b + 1) (F_X1_digitAt fN nN (nI (Q + 1))))) (nI (b + 2)) 2 2 = (1, nI (Q + 4), upd (upd (upd (a 22) (b) (F_X1_digitAt fN nN (nI Q))) (b + 1) (F_X1_digitAt fN nN (nI (Q + 1)))) (b + 2) (F_X1_numberAt fN nN (nI (Q + 2)))) from rn2t h2 rfl (by omega) (by omega) D2 D3).symm rfl (show ¬ (1 : Int32) = 0 by decide) (show ¬ (1 : Int32) = 0 by decide) (show ¬ (1 : Int32) = 0 by decide)
          have d1 : dc (isD fN nN Q) 4 0 = 4 := by rw [dc_t D0, dc_t D1, dc_t D2, dc_t D3]; rfl
          rw [e, d1]
          exact ⟨rfl, rfl, fun _ => u_3⟩
set_option maxHeartbeats 1000000 in
theorem ra_108 {Q b : Nat} (h : tO fN nN o a) (hQ : Q < 900) (hb : b < 900) (h24 : o 24 = nI Q) : (F_X7_readsAll o a 108 (nI b)).1 = (if dc (isD fN nN Q) 4 0 < 4 then 0 else 1) ∧ (F_X7_readsAll o a 108 (nI b)).2.1 = nI (Q + dc (isD fN nN Q) 4 0) ∧ (4 ≤ dc (isD fN nN Q) 4 0 → (∀ j, j < b → (F_X7_readsAll o a 108 (nI b)).2.2 j = a 22 j) ∧ (F_X7_readsAll o a 108 (nI b)).2.2 (b) = F_X1_digitAt fN nN (nI Q) ∧ (F_X7_readsAll o a 108 (nI b)).2.2 (b + 1) = F_X1_digitAt fN nN (nI (Q + 1)) ∧ (F_X7_readsAll o a 108 (nI b)).2.2 (b + 2) = F_X1_digitAt fN nN (nI (Q + 2)) ∧ (F_X7_readsAll o a 108 (nI b)).2.2 (b + 3) = F_X1_digitAt fN nN (nI (Q + 3))) := by
  cases D0 : isD fN nN Q 0
  ·
    have e := eX7_readsAll_5 o a 108 (nI b) (0, nI (Q), upd (a 22) (b) (0)) _ rfl (show F_X7_readsNumber o a (nI (b)) 1 1 = (0, nI (Q), upd (a 22) (b) (0)) from rn1f h h24 (by omega) (by omega) D0).symm (by decide) rfl rfl
    have d1 : dc (isD fN nN Q) 4 0 = 0 := by rw [ dc_f D0]
    rw [e, d1]
    exact ⟨rfl, rfl, fun q => absurd q (by omega)⟩
  ·
    have h1 : tO fN nN (upd o 24 (nI (Q + 1))) (va_up a 22 (upd (a 22) (b) (F_X1_digitAt fN nN (nI Q)))) := h.up _ _
    cases D1 : isD fN nN Q 1
    ·
      have e := eX7_readsAll_6 o a 108 (nI b) (1, nI (Q + 1), upd (a 22) (b) (F_X1_digitAt fN nN (nI Q))) _ (nI (b + 1)) (0, nI (Q + 1), upd (upd (a 22) (b) (F_X1_digitAt fN nN (nI Q))) (b + 1) (0)) _ rfl (show F_X7_readsNumber o a (nI (b)) 1 1 = (1, nI (Q + 1), upd (a 22) (b) (F_X1_digitAt fN nN (nI Q))) from rn1t h h24 (by omega) (by omega) D0).symm (nI_1 b).symm rfl (show F_X7_readsNumber (upd o 24 (nI (Q + 1))) (va_up a 22 (upd (a 22) (b) (F_X1_digitAt fN nN (nI Q)))) (nI (b + 1)) 1 1 = (0, nI (Q + 1), upd (upd (a 22) (b) (F_X1_digitAt fN nN (nI Q))) (b + 1) (0)) from rn1f h1 rfl (by omega) (by omega) D1).symm (by decide) rfl (show ¬ (1 : Int32) = 0 by decide) rfl
      have d1 : dc (isD fN nN Q) 4 0 = 1 := by rw [dc_t D0, dc_f D1]
      rw [e, d1]
      exact ⟨rfl, rfl, fun q => absurd q (by omega)⟩
    ·
      have h2 : tO fN nN (upd o 24 (nI (Q + 2))) (va_up a 22 (upd (upd (a 22) (b) (F_X1_digitAt fN nN (nI Q))) (b + 1) (F_X1_digitAt fN nN (nI (Q + 1))))) := h.up _ _
      cases D2 : isD fN nN Q 2
      ·
        have e := eX7_readsAll_7 o a 108 (nI b) (1, nI (Q + 1), upd (a 22) (b) (F_X1_digitAt fN nN (nI Q))) _ (nI (b + 1)) (1, nI (Q + 2), upd (upd (a 22) (b) (F_X1_digitAt fN nN (nI Q))) (b + 1) (F_X1_digitAt fN nN (nI (Q + 1)))) _ (nI (b + 2)) (0, nI (Q + 2), upd (upd (upd (a 22) (b) (F_X1_digitAt fN nN (nI Q))) (b + 1) (F_X1_digitAt fN nN (nI (Q + 1)))) (b + 2) (0)) _ rfl (show F_X7_readsNumber o a (nI (b)) 1 1 = (1, nI (Q + 1), upd (a 22) (b) (F_X1_digitAt fN nN (nI Q))) from rn1t h h24 (by omega) (by omega) D0).symm (nI_1 b).symm rfl (show F_X7_readsNumber (upd o 24 (nI (Q + 1))) (va_up a 22 (upd (a 22) (b) (F_X1_digitAt fN nN (nI Q)))) (nI (b + 1)) 1 1 = (1, nI (Q + 2), upd (upd (a 22) (b) (F_X1_digitAt fN nN (nI Q))) (b + 1) (F_X1_digitAt fN nN (nI (Q + 1)))) from rn1t h1 rfl (by omega) (by omega) D1).symm (nI_2 b).symm rfl (show F_X7_readsNumber (upd o 24 (nI (Q + 2))) (va_up a 22 (upd (upd (a 22) (b) (F_X1_digitAt fN nN (nI Q))) (b + 1) (F_X1_digitAt fN nN (nI (Q + 1))))) (nI (b + 2)) 1 1 = (0, nI (Q + 2), upd (upd (upd (a 22) (b) (F_X1_digitAt fN nN (nI Q))) (b + 1) (F_X1_digitAt fN nN (nI (Q + 1)))) (b + 2) (0)) from rn1f h2 rfl (by omega) (by omega) D2).symm (by decide) rfl (show ¬ (1 : Int32) = 0 by decide) (show ¬ (1 : Int32) = 0 by decide) rfl
        have d1 : dc (isD fN nN Q) 4 0 = 2 := by rw [dc_t D0, dc_t D1, dc_f D2]
        rw [e, d1]
        exact ⟨rfl, rfl, fun q => absurd q (by omega)⟩
      ·
        have h3 : tO fN nN (upd o 24 (nI (Q + 3))) (va_up a 22 (upd (upd (upd (a 22) (b) (F_X1_digitAt fN nN (nI Q))) (b + 1) (F_X1_digitAt fN nN (nI (Q + 1)))) (b + 2) (F_X1_digitAt fN nN (nI (Q + 2))))) := h.up _ _
        cases D3 : isD fN nN Q 3
        ·
          have e := eX7_readsAll_8 o a 108 (nI b) (1, nI (Q + 1), upd (a 22) (b) (F_X1_digitAt fN nN (nI Q))) _ (nI (b + 1)) (1, nI (Q + 2), upd (upd (a 22) (b) (F_X1_digitAt fN nN (nI Q))) (b + 1) (F_X1_digitAt fN nN (nI (Q + 1)))) _ (nI (b + 2)) (1, nI (Q + 3), upd (upd (upd (a 22) (b) (F_X1_digitAt fN nN (nI Q))) (b + 1) (F_X1_digitAt fN nN (nI (Q + 1)))) (b + 2) (F_X1_digitAt fN nN (nI (Q + 2)))) _ (nI (b + 3)) (0, nI (Q + 3), upd (upd (upd (upd (a 22) (b) (F_X1_digitAt fN nN (nI Q))) (b + 1) (F_X1_digitAt fN nN (nI (Q + 1)))) (b + 2) (F_X1_digitAt fN nN (nI (Q + 2)))) (b + 3) (0)) _ rfl (show F_X7_readsNumber o a (nI (b)) 1 1 = (1, nI (Q + 1), upd (a 22) (b) (F_X1_digitAt fN nN (nI Q))) from rn1t h h24 (by omega) (by omega) D0).symm (nI_1 b).symm rfl (show F_X7_readsNumber (upd o 24 (nI (Q + 1))) (va_up a 22 (upd (a 22) (b) (F_X1_digitAt fN nN (nI Q)))) (nI (b + 1)) 1 1 = (1, nI (Q + 2), upd (upd (a 22) (b) (F_X1_digitAt fN nN (nI Q))) (b + 1) (F_X1_digitAt fN nN (nI (Q + 1)))) from rn1t h1 rfl (by omega) (by omega) D1).symm (nI_2 b).symm rfl (show F_X7_readsNumber (upd o 24 (nI (Q + 2))) (va_up a 22 (upd (upd (a 22) (b) (F_X1_digitAt fN nN (nI Q))) (b + 1) (F_X1_digitAt fN nN (nI (Q + 1))))) (nI (b + 2)) 1 1 = (1, nI (Q + 3), upd (upd (upd (a 22) (b) (F_X1_digitAt fN nN (nI Q))) (b + 1) (F_X1_digitAt fN nN (nI (Q + 1)))) (b + 2) (F_X1_digitAt fN nN (nI (Q + 2)))) from rn1t h2 rfl (by omega) (by omega) D2).symm (nI_3 b).symm rfl (show F_X7_readsNumber (upd o 24 (nI (Q + 3))) (va_up a 22 (upd (upd (upd (a 22) (b) (F_X1_digitAt fN nN (nI Q))) (b + 1) (F_X1_digitAt fN nN (nI (Q + 1)))) (b + 2) (F_X1_digitAt fN nN (nI (Q + 2))))) (nI (b + 3)) 1 1 = (0, nI (Q + 3), upd (upd (upd (upd (a 22) (b) (F_X1_digitAt fN nN (nI Q))) (b + 1) (F_X1_digitAt fN nN (nI (Q + 1)))) (b + 2) (F_X1_digitAt fN nN (nI (Q + 2)))) (b + 3) (0)) from rn1f h3 rfl (by omega) (by omega) D3).symm (by decide) rfl (show ¬ (1 : Int32) = 0 by decide) (show ¬ (1 : Int32) = 0 by decide) (show ¬ (1 : Int32) = 0 by decide) rfl
          have d1 : dc (isD fN nN Q) 4 0 = 3 := by rw [dc_t D0, dc_t D1, dc_t D2, dc_f D3]
          rw [e, d1]
          exact ⟨rfl, rfl, fun q => absurd q (by omega)⟩
        ·
          have e := eX7_readsAll_9 o a 108 (nI b) (1, nI (Q + 1), upd (a 22) (b) (F_X1_digitAt fN nN (nI Q))) _ (nI (b + 1)) (1, nI (Q + 2), upd (upd (a 22) (b) (F_X1_digitAt fN nN (nI Q))) (b + 1) (F_X1_digitAt fN nN (nI (Q + 1)))) _ (nI (b + 2)) (1, nI (Q + 3), upd (upd (upd (a 22) (b) (F_X1_digitAt fN nN (nI Q))) (b + 1) (F_X1_digitAt fN nN (nI (Q + 1)))) (b + 2) (F_X1_digitAt fN nN (nI (Q + 2)))) _ (nI (b + 3)) (1, nI (Q + 4), upd (upd (upd (upd (a 22) (b) (F_X1_digitAt fN nN (nI Q))) (b + 1) (F_X1_digitAt fN nN (nI (Q + 1)))) (b + 2) (F_X1_digitAt fN nN (nI (Q + 2)))) (b + 3) (F_X1_digitAt fN nN (nI (Q + 3)))) _ rfl (show F_X7_readsNumber o a (nI (b)) 1 1 = (1, nI (Q + 1), upd (a 22) (b) (F_X1_digitAt fN nN (nI Q))) from rn1t h h24 (by omega) (by omega) D0).symm (nI_1 b).symm rfl (show F_X7_readsNumber (upd o 24 (nI (Q + 1))) (va_up a 22 (upd (a 22) (b) (F_X1_digitAt fN nN (nI Q)))) (nI (b + 1)) 1 1 = (1, nI (Q + 2), upd (upd (a 22) (b) (F_X1_digitAt fN nN (nI Q))) (b + 1) (F_X1_digitAt fN nN (nI (Q + 1)))) from rn1t h1 rfl (by omega) (by omega) D1).symm (nI_2 b).symm rfl (show F_X7_readsNumber (upd o 24 (nI (Q + 2))) (va_up a 22 (upd (upd (a 22) (b) (F_X1_digitAt fN nN (nI Q))) (b + 1) (F_X1_digitAt fN nN (nI (Q + 1))))) (nI (b + 2)) 1 1 = (1, nI (Q + 3), upd (upd (upd (a 22) (b) (F_X1_digitAt fN nN (nI Q))) (b + 1) (F_X1_digitAt fN nN (nI (Q + 1)))) (b + 2) (F_X1_digitAt fN nN (nI (Q + 2)))) from rn1t h2 rfl (by omega) (by omega) D2).symm (nI_3 b).symm rfl (show F_X7_readsNumber (upd o 24 (nI (Q + 3))) (va_up a 22 (upd (upd (upd (a 22) (b) (F_X1_digitAt fN nN (nI Q))) (b + 1) (F_X1_digitAt fN nN (nI (Q + 1)))) (b + 2) (F_X1_digitAt fN nN (nI (Q + 2))))) (nI (b + 3)) 1 1 = (1, nI (Q + 4), upd (upd (upd (upd (a 22) (b) (F_X1_digitAt fN nN (nI Q))) (b + 1) (F_X1_digitAt fN nN (nI (Q + 1)))) (b + 2) (F_X1_digitAt fN nN (nI (Q + 2)))) (b + 3) (F_X1_digitAt fN nN (nI (Q + 3)))) from rn1t h3 rfl (by omega) (by omega) D3).symm (by decide) rfl (show ¬ (1 : Int32) = 0 by decide) (show ¬ (1 : Int32) = 0 by decide) (show ¬ (1 : Int32) = 0 by decide) (show ¬ (1 : Int32) = 0 by decide)
          have d1 : dc (isD fN nN Q) 4 0 = 4 := by rw [dc_t D0, dc_t D1, dc_t D2, dc_t D3]; rfl
          rw [e, d1]
          exact ⟨rfl, rfl, fun _ => u_4⟩
set_option maxHeartbeats 1000000 in
theorem ra_107 {Q b : Nat} (h : tO fN nN o a) (hQ : Q < 900) (hb : b < 900) (h24 : o 24 = nI Q) : (F_X7_readsAll o a 107 (nI b)).1 = (if dc (isD fN nN Q) 4 0 < 3 then 0 else 1) ∧ (F_X7_readsAll o a 107 (nI b)).2.1 = nI (Q + dc (isD fN nN Q) 4 0) ∧ (3 ≤ dc (isD fN nN Q) 4 0 → (∀ j, j < b → (F_X7_readsAll o a 107 (nI b)).2.2 j = a 22 j) ∧ (F_X7_readsAll o a 107 (nI b)).2.2 (b) = F_X1_digitAt fN nN (nI Q) ∧ (F_X7_readsAll o a 107 (nI b)).2.2 (b + 1) = F_X1_digitAt fN nN (nI (Q + 1)) ∧ (F_X7_readsAll o a 107 (nI b)).2.2 (b + 2) = F_X1_numberAt fN nN (nI (Q + 2))) := by
  cases D0 : isD fN nN Q 0
  ·
    have e := eX7_readsAll_11 o a 107 (nI b) (0, nI (Q), upd (a 22) (b) (0)) _ rfl (show F_X7_readsNumber o a (nI (b)) 1 1 = (0, nI (Q), upd (a 22) (b) (0)) from rn1f h h24 (by omega) (by omega) D0).symm (by decide) (by decide) (by decide) rfl
    have d1 : dc (isD fN nN Q) 4 0 = 0 := by rw [ dc_f D0]
    rw [e, d1]
    exact ⟨rfl, rfl, fun q => absurd q (by omega)⟩
  ·
    have h1 : tO fN nN (upd o 24 (nI (Q + 1))) (va_up a 22 (upd (a 22) (b) (F_X1_digitAt fN nN (nI Q)))) := h.up _ _
    cases D1 : isD fN nN Q 1
    ·
      have e := eX7_readsAll_12 o a 107 (nI b) (1, nI (Q + 1), upd (a 22) (b) (F_X1_digitAt fN nN (nI Q))) _ (nI (b + 1)) (0, nI (Q + 1), upd (upd (a 22) (b) (F_X1_digitAt fN nN (nI Q))) (b + 1) (0)) _ rfl (show F_X7_readsNumber o a (nI (b)) 1 1 = (1, nI (Q + 1), upd (a 22) (b) (F_X1_digitAt fN nN (nI Q))) from rn1t h h24 (by omega) (by omega) D0).symm (nI_1 b).symm rfl (show F_X7_readsNumber (upd o 24 (nI (Q + 1))) (va_up a 22 (upd (a 22) (b) (F_X1_digitAt fN nN (nI Q)))) (nI (b + 1)) 1 1 = (0, nI (Q + 1), upd (upd (a 22) (b) (F_X1_digitAt fN nN (nI Q))) (b + 1) (0)) from rn1f h1 rfl (by omega) (by omega) D1).symm (by decide) (by decide) (by decide) (show ¬ (1 : Int32) = 0 by decide) rfl
      have d1 : dc (isD fN nN Q) 4 0 = 1 := by rw [dc_t D0, dc_f D1]
      rw [e, d1]
      exact ⟨rfl, rfl, fun q => absurd q (by omega)⟩
    ·
      have h2 : tO fN nN (upd o 24 (nI (Q + 2))) (va_up a 22 (upd (upd (a 22) (b) (F_X1_digitAt fN nN (nI Q))) (b + 1) (F_X1_digitAt fN nN (nI (Q + 1))))) := h.up _ _
      cases D2 : isD fN nN Q 2
      ·
        have e := eX7_readsAll_13 o a 107 (nI b) (1, nI (Q + 1), upd (a 22) (b) (F_X1_digitAt fN nN (nI Q))) _ (nI (b + 1)) (1, nI (Q + 2), upd (upd (a 22) (b) (F_X1_digitAt fN nN (nI Q))) (b + 1) (F_X1_digitAt fN nN (nI (Q + 1)))) _ (nI (b + 2)) (0, nI (Q + 2), upd (upd (upd (a 22) (b) (F_X1_digitAt fN nN (nI Q))) (b + 1) (F_X1_digitAt fN nN (nI (Q + 1)))) (b + 2) (0)) _ rfl (show F_X7_readsNumber o a (nI (b)) 1 1 = (1, nI (Q + 1), upd (a 22) (b) (F_X1_digitAt fN nN (nI Q))) from rn1t h h24 (by omega) (by omega) D0).symm (nI_1 b).symm rfl (show F_X7_readsNumber (upd o 24 (nI (Q + 1))) (va_up a 22 (upd (a 22) (b) (F_X1_digitAt fN nN (nI Q)))) (nI (b + 1)) 1 1 = (1, nI (Q + 2), upd (upd (a 22) (b) (F_X1_digitAt fN nN (nI Q))) (b + 1) (F_X1_digitAt fN nN (nI (Q + 1)))) from rn1t h1 rfl (by omega) (by omega) D1).symm (nI_2 b).symm rfl (show F_X7_readsNumber (upd o 24 (nI (Q + 2))) (va_up a 22 (upd (upd (a 22) (b) (F_X1_digitAt fN nN (nI Q))) (b + 1) (F_X1_digitAt fN nN (nI (Q + 1))))) (nI (b + 2)) 1 2 = (0, nI (Q + 2), upd (upd (upd (a 22) (b) (F_X1_digitAt fN nN (nI Q))) (b + 1) (F_X1_digitAt fN nN (nI (Q + 1)))) (b + 2) (0)) from rn3f h2 rfl (by omega) (by omega) D2).symm (by decide) (by decide) (by decide) (show ¬ (1 : Int32) = 0 by decide) (show ¬ (1 : Int32) = 0 by decide) rfl
        have d1 : dc (isD fN nN Q) 4 0 = 2 := by rw [dc_t D0, dc_t D1, dc_f D2]
        rw [e, d1]
        exact ⟨rfl, rfl, fun q => absurd q (by omega)⟩
      ·
        cases D3 : isD fN nN Q 3
        ·
          have e := eX7_readsAll_14 o a 107 (nI b) (1, nI (Q + 1), upd (a 22) (b) (F_X1_digitAt fN nN (nI Q))) _ (nI (b + 1)) (1, nI (Q + 2), upd (upd (a 22) (b) (F_X1_digitAt fN nN (nI Q))) (b + 1) (F_X1_digitAt fN nN (nI (Q + 1)))) _ (nI (b + 2)) (1, nI (Q + 3), upd (upd (upd (a 22) (b) (F_X1_digitAt fN nN (nI Q))) (b + 1) (F_X1_digitAt fN nN (nI (Q + 1)))) (b + 2) (F_X1_numberAt fN nN (nI (Q + 2)))) _ rfl (show F_X7_readsNumber o a (nI (b)) 1 1 = (1, nI (Q + 1), upd (a 22) (b) (F_X1_digitAt fN nN (nI Q))) from rn1t h h24 (by omega) (by omega) D0).symm (nI_1 b).symm rfl (show F_X7_readsNumber (upd o 24 (nI (Q + 1))) (va_up a 22 (upd (a 22) (b) (F_X1_digitAt fN nN (nI Q)))) (nI (b + 1)) 1 1 = (1, nI (Q + 2), upd (upd (a 22) (b) (F_X1_digitAt fN nN (nI Q))) (b + 1) (F_X1_digitAt fN nN (nI (Q + 1)))) from rn1t h1 rfl (by omega) (by omega) D1).symm (nI_2 b).symm rfl (show F_X7_readsNumber (upd o 24 (nI (Q + 2))) (va_up a 22 (upd (upd (a 22) (b) (F_X1_digitAt fN nN (nI Q))) (b + 1) (F_X1_digitAt fN nN (nI (Q + 1))))) (nI (b + 2)) 1 2 = (1, nI (Q + 3), upd (upd (upd (a 22) (b) (F_X1_digitAt fN nN (nI Q))) (b + 1) (F_X1_digitAt fN nN (nI (Q + 1)))) (b + 2) (F_X1_numberAt fN nN (nI (Q + 2)))) from rn3g h2 rfl (by omega) (by omega) D2 D3).symm (by decide) (by decide) (by decide) (show ¬ (1 : Int32) = 0 by decide) (show ¬ (1 : Int32) = 0 by decide) (show ¬ (1 : Int32) = 0 by decide)
          have d1 : dc (isD fN nN Q) 4 0 = 3 := by rw [dc_t D0, dc_t D1, dc_t D2, dc_f D3]
          rw [e, d1]
          exact ⟨rfl, rfl, fun _ => u_3⟩
        ·
          have e := eX7_readsAll_14 o a 107 (nI b) (1, nI (Q + 1), upd (a 22) (b) (F_X1_digitAt fN nN (nI Q))) _ (nI (b + 1)) (1, nI (Q + 2), upd (upd (a 22) (b) (F_X1_digitAt fN nN (nI Q))) (b + 1) (F_X1_digitAt fN nN (nI (Q + 1)))) _ (nI (b + 2)) (1, nI (Q + 4), upd (upd (upd (a 22) (b) (F_X1_digitAt fN nN (nI Q))) (b + 1) (F_X1_digitAt fN nN (nI (Q + 1)))) (b + 2) (F_X1_numberAt fN nN (nI (Q + 2)))) _ rfl (show F_X7_readsNumber o a (nI (b)) 1 1 = (1, nI (Q + 1), upd (a 22) (b) (F_X1_digitAt fN nN (nI Q))) from rn1t h h24 (by omega) (by omega) D0).symm (nI_1 b).symm rfl (show F_X7_readsNumber (upd o 24 (nI (Q + 1))) (va_up a 22 (upd (a 22) (b) (F_X1_digitAt fN nN (nI Q)))) (nI (b + 1)) 1 1 = (1, nI (Q + 2), upd (upd (a 22) (b) (F_X1_digitAt fN nN (nI Q))) (b + 1) (F_X1_digitAt fN nN (nI (Q + 1)))) from rn1t h1 rfl (by omega) (by omega) D1).symm (nI_2 b).symm rfl (show F_X7_readsNumber (upd o 24 (nI (Q + 2))) (va_up a 22 (upd (upd (a 22) (b) (F_X1_digitAt fN nN (nI Q))) (b + 1) (F_X1_digitAt fN nN (nI (Q + 1))))) (nI (b + 2)) 1 2 = (1, nI (Q + 4), upd (upd (upd (a 22) (b) (F_X1_digitAt fN nN (nI Q))) (b + 1) (F_X1_digitAt fN nN (nI (Q + 1)))) (b + 2) (F_X1_numberAt fN nN (nI (Q + 2)))) from rn3t h2 rfl (by omega) (by omega) D2 D3).symm (by decide) (by decide) (by decide) (show ¬ (1 : Int32) = 0 by decide) (show ¬ (1 : Int32) = 0 by decide) (show ¬ (1 : Int32) = 0 by decide)
          have d1 : dc (isD fN nN Q) 4 0 = 4 := by rw [dc_t D0, dc_t D1, dc_t D2, dc_t D3]; rfl
          rw [e, d1]
          exact ⟨rfl, rfl, fun _ => u_3⟩
end RN
