/-! what is kept: passed one way and the other -/
theorem pq_s {S : Nat → Int32} {A : Nat → Nat → Int32} {fV0 : Nat → Int32} {kV c : Nat} (h28 : ¬ S 28 = 0) (hc : c + kV ≤ 160) : ∀ (m k : Nat), k + m = kV → ∀ (f : Nat) (K fV : Nat → Int32), m < f → ∃ K', F_X7_passes_L2 S A fV0 kV f K fV (nI (c + k)) (nI k) = (nI (c + kV), K', fV) ∧ ∀ j, K' j = if c + k ≤ j ∧ j < c + kV then fV (j - c) else K j := by
  intro m
  induction m with
  | zero =>
    intro k hk f K fV hf
    match f, hf with
    | f + 1, _ =>
      refine ⟨K, ?_, fun j => by rw [if_neg (by omega)]⟩
      rw [F_X7_passes_L2, if_pos (show nI kV ≤ nI k from nI_le (by omega) (by omega)), show c + k = c + kV by omega]
  | succ m ih =>
    intro k hk f K fV hf
    match f, hf with
    | f + 1, hf =>
      obtain ⟨K', h1, h2⟩ := ih (k + 1) (by omega) f (upd K (c + k) (fV k)) fV (by omega)
      refine ⟨K', ?_, fun j => ?_⟩
      · rw [F_X7_passes_L2, if_neg (show ¬ nI kV ≤ nI k from nI_ge (by omega) (by omega)), if_neg h28]
        dsimp only
        rw [nI_clamp (show k < 2 ^ 31 by omega), nI_clamp (show c + k < 2 ^ 31 by omega), nI_1, nI_1]
        exact h1
      · rw [h2 j]
        by_cases e : j = c + k
        · rw [if_neg (by omega), if_pos (by omega), e, pk_us, show c + k - c = k by omega]
        · rw [pk_un e]
          by_cases e2 : c + (k + 1) ≤ j ∧ j < c + kV
          · rw [if_pos e2, if_pos (by omega)]
          · rw [if_neg e2, if_neg (by omega)]
theorem pq_r {S : Nat → Int32} {A : Nat → Nat → Int32} {fV0 : Nat → Int32} {kV c : Nat} (h28 : S 28 = 0) (hc : c + kV ≤ 160) : ∀ (m k : Nat), k + m = kV → ∀ (f : Nat) (K fV : Nat → Int32), m < f → ∃ fV', F_X7_passes_L2 S A fV0 kV f K fV (nI (c + k)) (nI k) = (nI (c + kV), K, fV') ∧ ∀ j, fV' j = if k ≤ j ∧ j < kV then K (c + j) else fV j := by
  intro m
  induction m with
  | zero =>
    intro k hk f K fV hf
    match f, hf with
    | f + 1, _ =>
      refine ⟨fV, ?_, fun j => by rw [if_neg (by omega)]⟩
      rw [F_X7_passes_L2, if_pos (show nI kV ≤ nI k from nI_le (by omega) (by omega)), show c + k = c + kV by omega]
  | succ m ih =>
    intro k hk f K fV hf
    match f, hf with
    | f + 1, hf =>
      obtain ⟨fV', h1, h2⟩ := ih (k + 1) (by omega) f K (upd fV k (K (c + k))) (by omega)
      refine ⟨fV', ?_, fun j => ?_⟩
      · rw [F_X7_passes_L2, if_neg (show ¬ nI kV ≤ nI k from nI_ge (by omega) (by omega)), if_pos h28]
        dsimp only
        rw [nI_clamp (show k < 2 ^ 31 by omega), nI_clamp (show c + k < 2 ^ 31 by omega), nI_1, nI_1]
        exact h1
      · rw [h2 j]
        by_cases e : j = k
        · rw [if_neg (by omega), if_pos (by omega), e, pk_us]
        · rw [pk_un e]
          by_cases e2 : k + 1 ≤ j ∧ j < kV
          · rw [if_pos e2, if_pos (by omega)]
          · rw [if_neg e2, if_neg (by omega)]
theorem ps_s {z : Int32 × (Nat → Int32) × (Nat → Int32)} {S : Nat → Int32} {A : Nat → Nat → Int32} {fV : Nat → Int32} {kV c : Nat} (e : z = F_X7_passes S A fV kV) (h28 : ¬ S 28 = 0) (h29 : S 29 = nI c) (hc : c + kV ≤ 160) : z.1 = nI (c + kV) ∧ z.2.2 = fV ∧ ∀ j, z.2.1 j = if c ≤ j ∧ j < c + kV then fV (j - c) else A 26 j := by
  obtain ⟨K', h1, h2⟩ := pq_s (S := S) (A := A) (fV0 := fV) h28 hc kV 0 (by omega) ((((nI kV).toInt - (0 : Int32).toInt).toNat) + 1) (A 26) fV (by rw [nI_toInt (by omega), show (0 : Int32).toInt = 0 from rfl]; omega)
  have e2 : z = (nI (c + kV), K', fV) := by
    rw [e]; unfold F_X7_passes; rw [h29]; exact h1
  rw [e2]
  exact ⟨rfl, rfl, fun j => h2 j⟩
theorem ps_r {z : Int32 × (Nat → Int32) × (Nat → Int32)} {S : Nat → Int32} {A : Nat → Nat → Int32} {fV : Nat → Int32} {kV c : Nat} (e : z = F_X7_passes S A fV kV) (h28 : S 28 = 0) (h29 : S 29 = nI c) (hc : c + kV ≤ 160) : z.1 = nI (c + kV) ∧ z.2.1 = A 26 ∧ ∀ j, j < kV → z.2.2 j = A 26 (c + j) := by
  obtain ⟨K', h1, h2⟩ := pq_r (S := S) (A := A) (fV0 := fV) h28 hc kV 0 (by omega) ((((nI kV).toInt - (0 : Int32).toInt).toNat) + 1) (A 26) fV (by rw [nI_toInt (by omega), show (0 : Int32).toInt = 0 from rfl]; omega)
  have e2 : z = (nI (c + kV), A 26, K') := by
    rw [e]; unfold F_X7_passes; rw [h29]; exact h1
  rw [e2]
  exact ⟨rfl, rfl, fun j hj => by show K' j = _; rw [h2 j, if_pos ⟨Nat.zero_le j, hj⟩]⟩
theorem po_s {z : Int32 × Int32 × (Nat → Int32)} {S : Nat → Int32} {A : Nat → Nat → Int32} {p : Int32} {c : Nat} (e : z = F_X7_passOne S A p) (h28 : ¬ S 28 = 0) (h29 : S 29 = nI c) (hc : c ≤ 160) : z.1 = p ∧ z.2.1 = nI (c + 1) ∧ z.2.2 = upd (A 26) c p := by
  have e2 : z = (p, nI (c + 1), upd (A 26) c p) := by
    rw [e]; unfold F_X7_passOne; rw [if_neg h28, if_neg h28]; dsimp only; rw [h29, nI_1, nI_clamp (by omega)]
  rw [e2]; exact ⟨rfl, rfl, rfl⟩
theorem po_r {z : Int32 × Int32 × (Nat → Int32)} {S : Nat → Int32} {A : Nat → Nat → Int32} {p : Int32} {c : Nat} (e : z = F_X7_passOne S A p) (h28 : S 28 = 0) (h29 : S 29 = nI c) (hc : c ≤ 160) : z.1 = A 26 c ∧ z.2.1 = nI (c + 1) ∧ z.2.2 = A 26 := by
  have e2 : z = (A 26 c, nI (c + 1), A 26) := by
    rw [e]; unfold F_X7_passOne; rw [if_pos h28]; dsimp only; rw [if_pos h28, h29, nI_1, nI_clamp (by omega)]
  rw [e2]; exact ⟨rfl, rfl, rfl⟩
def img (o : Nat → Int32) (a : Nat → Nat → Int32) (j : Nat) : Int32 := if j < 32 then a (1 + j / 8) (j % 8) else if j < 64 then a (5 + (j - 32) / 4) ((j - 32) % 4) else o (13 + (j - 64))
theorem img_8 {o : Nat → Int32} {a : Nat → Nat → Int32} (t i : Nat) (ht : t < 4) (hi : i < 8) : img o a (8 * t + i) = a (1 + t) i := by
  unfold img
  rw [if_pos (by omega), show (8 * t + i) / 8 = t by omega, show (8 * t + i) % 8 = i by omega]
theorem img_4 {o : Nat → Int32} {a : Nat → Nat → Int32} (t i : Nat) (ht : t < 8) (hi : i < 4) : img o a (32 + 4 * t + i) = a (5 + t) i := by
  unfold img
  rw [if_neg (by omega), if_pos (by omega), show (32 + 4 * t + i - 32) / 4 = t by omega, show (32 + 4 * t + i - 32) % 4 = i by omega]
theorem img_o {o : Nat → Int32} {a : Nat → Nat → Int32} (t : Nat) (ht : t < 6) : img o a (64 + t) = o (13 + t) := by
  unfold img
  rw [if_neg (by omega), if_neg (by omega), show 64 + t - 64 = t by omega]
def KI (b c : Nat) (F K0 K : Nat → Int32) : Prop := ∀ j, K j = if b ≤ j ∧ j < b + c then F (j - b) else K0 j
theorem KI.s {b c kV : Nat} {F K0 K fV z : Nat → Int32} (h : KI b c F K0 K) (hz : ∀ j, z j = if b + c ≤ j ∧ j < b + c + kV then fV (j - (b + c)) else K j) (hF : ∀ i, i < kV → F (c + i) = fV i) : KI b (c + kV) F K0 z := fun j => by
  rw [hz j]
  by_cases e : b + c ≤ j ∧ j < b + c + kV
  · rw [if_pos e, if_pos (by omega), ← hF (j - (b + c)) (by omega), show c + (j - (b + c)) = j - b by omega]
  · rw [if_neg e, h j]
    by_cases e2 : b ≤ j ∧ j < b + c
    · rw [if_pos e2, if_pos (by omega)]
    · rw [if_neg e2, if_neg (by omega)]
theorem KI.o {b c : Nat} {F K0 K z : Nat → Int32} {p : Int32} (h : KI b c F K0 K) (hz : z = upd K (b + c) p) (hF : F c = p) : KI b (c + 1) F K0 z := fun j => by
  rw [hz]
  by_cases e : j = b + c
  · rw [e, pk_us, if_pos (by omega), show b + c - b = c by omega, hF]
  · rw [pk_un e, h j]
    by_cases e2 : b ≤ j ∧ j < b + c
    · rw [if_pos e2, if_pos (by omega)]
    · rw [if_neg e2, if_neg (by omega)]
theorem pa_s {o : Nat → Int32} {a : Nat → Nat → Int32} {s : Nat} (hs : s ≤ 1) : ∃ (x : Int32) (K : Nat → Int32), F_X7_passesAll o a (nI s) 1 = (o 13, o 14, o 15, o 16, o 17, o 18, 1, x, a 1, a 2, a 3, a 4, a 5, a 6, a 7, a 8, a 9, a 10, a 11, a 12, K) ∧ KI (80 * s) 70 (img o a) (a 26) K := by
  have h80 : (80 : Int32) * nI s = nI (80 * s + 0) := by
    match s, hs with
    | 0, _ => rfl
    | 1, _ => rfl
  have k1 : KI (80 * s) 0 (img o a) (a 26) (a 26) := fun j => by rw [if_neg (by omega)]
  obtain ⟨o2, e2⟩ : ∃ z, z = F_X7_passes (upd (upd o 28 1) 29 (80 * nI s)) a (a 1) 8 := ⟨_, rfl⟩
  obtain ⟨qo21, qo22, qo23⟩ := ps_s (c := 80 * s + 0) e2 (show ¬ (1 : Int32) = 0 by decide) (show _ = _ from h80) (by omega)
  have k2 : KI (80 * s) 8 (img o a) (a 26) o2.2.1 := k1.s qo23 (fun i hi => img_8 0 i (by omega) hi)
  obtain ⟨o3, e3⟩ : ∃ z, z = F_X7_passes (upd (upd o 28 1) 29 o2.1) (va_up (va_up a 1 o2.2.2) 26 o2.2.1) (a 2) 8 := ⟨_, rfl⟩
  obtain ⟨qo31, qo32, qo33⟩ := ps_s (c := 80 * s + 8) e3 (show ¬ (1 : Int32) = 0 by decide) (show _ = _ from qo21) (by omega)
  have k3 : KI (80 * s) 16 (img o a) (a 26) o3.2.1 := k2.s qo33 (fun i hi => img_8 1 i (by omega) hi)
  obtain ⟨o4, e4⟩ : ∃ z, z = F_X7_passes (upd (upd o 28 1) 29 o3.1) (va_up (va_up (va_up a 1 o2.2.2) 2 o3.2.2) 26 o3.2.1) (a 3) 8 := ⟨_, rfl⟩
  obtain ⟨qo41, qo42, qo43⟩ := ps_s (c := 80 * s + 16) e4 (show ¬ (1 : Int32) = 0 by decide) (show _ = _ from qo31) (by omega)
  have k4 : KI (80 * s) 24 (img o a) (a 26) o4.2.1 := k3.s qo43 (fun i hi => img_8 2 i (by omega) hi)
  obtain ⟨o5, e5⟩ : ∃ z, z = F_X7_passes (upd (upd o 28 1) 29 o4.1) (va_up (va_up (va_up (va_up a 1 o2.2.2) 2 o3.2.2) 3 o4.2.2) 26 o4.2.1) (a 4) 8 := ⟨_, rfl⟩
  obtain ⟨qo51, qo52, qo53⟩ := ps_s (c := 80 * s + 24) e5 (show ¬ (1 : Int32) = 0 by decide) (show _ = _ from qo41) (by omega)
  have k5 : KI (80 * s) 32 (img o a) (a 26) o5.2.1 := k4.s qo53 (fun i hi => img_8 3 i (by omega) hi)
  obtain ⟨o6, e6⟩ : ∃ z, z = F_X7_passes (upd (upd o 28 1) 29 o5.1) (va_up (va_up (va_up (va_up (va_up a 1 o2.2.2) 2 o3.2.2) 3 o4.2.2) 4 o5.2.2) 26 o5.2.1) (a 5) 4 := ⟨_, rfl⟩
  obtain ⟨qo61, qo62, qo63⟩ := ps_s (c := 80 * s + 32) e6 (show ¬ (1 : Int32) = 0 by decide) (show _ = _ from qo51) (by omega)
  have k6 : KI (80 * s) 36 (img o a) (a 26) o6.2.1 := k5.s qo63 (fun i hi => img_4 0 i (by omega) hi)
  obtain ⟨o7, e7⟩ : ∃ z, z = F_X7_passes (upd (upd o 28 1) 29 o6.1) (va_up (va_up (va_up (va_up (va_up (va_up a 1 o2.2.2) 2 o3.2.2) 3 o4.2.2) 4 o5.2.2) 5 o6.2.2) 26 o6.2.1) (a 6) 4 := ⟨_, rfl⟩
  obtain ⟨qo71, qo72, qo73⟩ := ps_s (c := 80 * s + 36) e7 (show ¬ (1 : Int32) = 0 by decide) (show _ = _ from qo61) (by omega)
  have k7 : KI (80 * s) 40 (img o a) (a 26) o7.2.1 := k6.s qo73 (fun i hi => img_4 1 i (by omega) hi)
  obtain ⟨o8, e8⟩ : ∃ z, z = F_X7_passes (upd (upd o 28 1) 29 o7.1) (va_up (va_up (va_up (va_up (va_up (va_up (va_up a 1 o2.2.2) 2 o3.2.2) 3 o4.2.2) 4 o5.2.2) 5 o6.2.2) 6 o7.2.2) 26 o7.2.1) (a 7) 4 := ⟨_, rfl⟩
  obtain ⟨qo81, qo82, qo83⟩ := ps_s (c := 80 * s + 40) e8 (show ¬ (1 : Int32) = 0 by decide) (show _ = _ from qo71) (by omega)
  have k8 : KI (80 * s) 44 (img o a) (a 26) o8.2.1 := k7.s qo83 (fun i hi => img_4 2 i (by omega) hi)
  obtain ⟨o9, e9⟩ : ∃ z, z = F_X7_passes (upd (upd o 28 1) 29 o8.1) (va_up (va_up (va_up (va_up (va_up (va_up (va_up (va_up a 1 o2.2.2) 2 o3.2.2) 3 o4.2.2) 4 o5.2.2) 5 o6.2.2) 6 o7.2.2) 7 o8.2.2) 26 o8.2.1) (a 8) 4 := ⟨_, rfl⟩
  obtain ⟨qo91, qo92, qo93⟩ := ps_s (c := 80 * s + 44) e9 (show ¬ (1 : Int32) = 0 by decide) (show _ = _ from qo81) (by omega)
  have k9 : KI (80 * s) 48 (img o a) (a 26) o9.2.1 := k8.s qo93 (fun i hi => img_4 3 i (by omega) hi)
  obtain ⟨o10, e10⟩ : ∃ z, z = F_X7_passes (upd (upd o 28 1) 29 o9.1) (va_up (va_up (va_up (va_up (va_up (va_up (va_up (va_up (va_up a 1 o2.2.2) 2 o3.2.2) 3 o4.2.2) 4 o5.2.2) 5 o6.2.2) 6 o7.2.2) 7 o8.2.2) 8 o9.2.2) 26 o9.2.1) (a 9) 4 := ⟨_, rfl⟩
  obtain ⟨qo101, qo102, qo103⟩ := ps_s (c := 80 * s + 48) e10 (show ¬ (1 : Int32) = 0 by decide) (show _ = _ from qo91) (by omega)
  have k10 : KI (80 * s) 52 (img o a) (a 26) o10.2.1 := k9.s qo103 (fun i hi => img_4 4 i (by omega) hi)
  obtain ⟨o11, e11⟩ : ∃ z, z = F_X7_passes (upd (upd o 28 1) 29 o10.1) (va_up (va_up (va_up (va_up (va_up (va_up (va_up (va_up (va_up (va_up a 1 o2.2.2) 2 o3.2.2) 3 o4.2.2) 4 o5.2.2) 5 o6.2.2) 6 o7.2.2) 7 o8.2.2) 8 o9.2.2) 9 o10.2.2) 26 o10.2.1) (a 10) 4 := ⟨_, rfl⟩
  obtain ⟨qo111, qo112, qo113⟩ := ps_s (c := 80 * s + 52) e11 (show ¬ (1 : Int32) = 0 by decide) (show _ = _ from qo101) (by omega)
  have k11 : KI (80 * s) 56 (img o a) (a 26) o11.2.1 := k10.s qo113 (fun i hi => img_4 5 i (by omega) hi)
  obtain ⟨o12, e12⟩ : ∃ z, z = F_X7_passes (upd (upd o 28 1) 29 o11.1) (va_up (va_up (va_up (va_up (va_up (va_up (va_up (va_up (va_up (va_up (va_up a 1 o2.2.2) 2 o3.2.2) 3 o4.2.2) 4 o5.2.2) 5 o6.2.2) 6 o7.2.2) 7 o8.2.2) 8 o9.2.2) 9 o10.2.2) 10 o11.2.2) 26 o11.2.1) (a 11) 4 := ⟨_, rfl⟩
  obtain ⟨qo121, qo122, qo123⟩ := ps_s (c := 80 * s + 56) e12 (show ¬ (1 : Int32) = 0 by decide) (show _ = _ from qo111) (by omega)
  have k12 : KI (80 * s) 60 (img o a) (a 26) o12.2.1 := k11.s qo123 (fun i hi => img_4 6 i (by omega) hi)
  obtain ⟨o13, e13⟩ : ∃ z, z = F_X7_passes (upd (upd o 28 1) 29 o12.1) (va_up (va_up (va_up (va_up (va_up (va_up (va_up (va_up (va_up (va_up (va_up (va_up a 1 o2.2.2) 2 o3.2.2) 3 o4.2.2) 4 o5.2.2) 5 o6.2.2) 6 o7.2.2) 7 o8.2.2) 8 o9.2.2) 9 o10.2.2) 10 o11.2.2) 11 o12.2.2) 26 o12.2.1) (a 12) 4 := ⟨_, rfl⟩
  obtain ⟨qo131, qo132, qo133⟩ := ps_s (c := 80 * s + 60) e13 (show ¬ (1 : Int32) = 0 by decide) (show _ = _ from qo121) (by omega)
  have k13 : KI (80 * s) 64 (img o a) (a 26) o13.2.1 := k12.s qo133 (fun i hi => img_4 7 i (by omega) hi)
  obtain ⟨o14, e14⟩ : ∃ z, z = F_X7_passOne (upd (upd o 28 1) 29 o13.1) (va_up (va_up (va_up (va_up (va_up (va_up (va_up (va_up (va_up (va_up (va_up (va_up (va_up a 1 o2.2.2) 2 o3.2.2) 3 o4.2.2) 4 o5.2.2) 5 o6.2.2) 6 o7.2.2) 7 o8.2.2) 8 o9.2.2) 9 o10.2.2) 10 o11.2.2) 11 o12.2.2) 12 o13.2.2) 26 o13.2.1) (o 13) := ⟨_, rfl⟩
  obtain ⟨qo141, qo142, qo143⟩ := po_s (c := 80 * s + 64) e14 (show ¬ (1 : Int32) = 0 by decide) (show _ = _ from qo131) (by omega)
  have k14 : KI (80 * s) 65 (img o a) (a 26) o14.2.2 := k13.o qo143 (img_o 0 (by omega))
  obtain ⟨o16, e16⟩ : ∃ z, z = F_X7_passOne (upd (upd (upd o 13 o14.1) 28 1) 29 o14.2.1) (va_up (va_up (va_up (va_up (va_up (va_up (va_up (va_up (va_up (va_up (va_up (va_up (va_up a 1 o2.2.2) 2 o3.2.2) 3 o4.2.2) 4 o5.2.2) 5 o6.2.2) 6 o7.2.2) 7 o8.2.2) 8 o9.2.2) 9 o10.2.2) 10 o11.2.2) 11 o12.2.2) 12 o13.2.2) 26 o14.2.2) (o 14) := ⟨_, rfl⟩
  obtain ⟨qo161, qo162, qo163⟩ := po_s (c := 80 * s + 65) e16 (show ¬ (1 : Int32) = 0 by decide) (show _ = _ from qo142) (by omega)
  have k16 : KI (80 * s) 66 (img o a) (a 26) o16.2.2 := k14.o qo163 (img_o 1 (by omega))
  obtain ⟨o18, e18⟩ : ∃ z, z = F_X7_passOne (upd (upd (upd (upd o 13 o14.1) 14 o16.1) 28 1) 29 o16.2.1) (va_up (va_up (va_up (va_up (va_up (va_up (va_up (va_up (va_up (va_up (va_up (va_up (va_up a 1 o2.2.2) 2 o3.2.2) 3 o4.2.2) 4 o5.2.2) 5 o6.2.2) 6 o7.2.2) 7 o8.2.2) 8 o9.2.2) 9 o10.2.2) 10 o11.2.2) 11 o12.2.2) 12 o13.2.2) 26 o16.2.2) (o 15) := ⟨_, rfl⟩
  obtain ⟨qo181, qo182, qo183⟩ := po_s (c := 80 * s + 66) e18 (show ¬ (1 : Int32) = 0 by decide) (show _ = _ from qo162) (by omega)
  have k18 : KI (80 * s) 67 (img o a) (a 26) o18.2.2 := k16.o qo183 (img_o 2 (by omega))
  obtain ⟨o20, e20⟩ : ∃ z, z = F_X7_passOne (upd (upd (upd (upd (upd o 13 o14.1) 14 o16.1) 15 o18.1) 28 1) 29 o18.2.1) (va_up (va_up (va_up (va_up (va_up (va_up (va_up (va_up (va_up (va_up (va_up (va_up (va_up a 1 o2.2.2) 2 o3.2.2) 3 o4.2.2) 4 o5.2.2) 5 o6.2.2) 6 o7.2.2) 7 o8.2.2) 8 o9.2.2) 9 o10.2.2) 10 o11.2.2) 11 o12.2.2) 12 o13.2.2) 26 o18.2.2) (o 16) := ⟨_, rfl⟩
  obtain ⟨qo201, qo202, qo203⟩ := po_s (c := 80 * s + 67) e20 (show ¬ (1 : Int32) = 0 by decide) (show _ = _ from qo182) (by omega)
  have k20 : KI (80 * s) 68 (img o a) (a 26) o20.2.2 := k18.o qo203 (img_o 3 (by omega))
  obtain ⟨o22, e22⟩ : ∃ z, z = F_X7_passOne (upd (upd (upd (upd (upd (upd o 13 o14.1) 14 o16.1) 15 o18.1) 16 o20.1) 28 1) 29 o20.2.1) (va_up (va_up (va_up (va_up (va_up (va_up (va_up (va_up (va_up (va_up (va_up (va_up (va_up a 1 o2.2.2) 2 o3.2.2) 3 o4.2.2) 4 o5.2.2) 5 o6.2.2) 6 o7.2.2) 7 o8.2.2) 8 o9.2.2) 9 o10.2.2) 10 o11.2.2) 11 o12.2.2) 12 o13.2.2) 26 o20.2.2) (o 17) := ⟨_, rfl⟩
  obtain ⟨qo221, qo222, qo223⟩ := po_s (c := 80 * s + 68) e22 (show ¬ (1 : Int32) = 0 by decide) (show _ = _ from qo202) (by omega)
  have k22 : KI (80 * s) 69 (img o a) (a 26) o22.2.2 := k20.o qo223 (img_o 4 (by omega))
  obtain ⟨o24, e24⟩ : ∃ z, z = F_X7_passOne (upd (upd (upd (upd (upd (upd (upd o 13 o14.1) 14 o16.1) 15 o18.1) 16 o20.1) 17 o22.1) 28 1) 29 o22.2.1) (va_up (va_up (va_up (va_up (va_up (va_up (va_up (va_up (va_up (va_up (va_up (va_up (va_up a 1 o2.2.2) 2 o3.2.2) 3 o4.2.2) 4 o5.2.2) 5 o6.2.2) 6 o7.2.2) 7 o8.2.2) 8 o9.2.2) 9 o10.2.2) 10 o11.2.2) 11 o12.2.2) 12 o13.2.2) 26 o22.2.2) (o 18) := ⟨_, rfl⟩
  obtain ⟨qo241, qo242, qo243⟩ := po_s (c := 80 * s + 69) e24 (show ¬ (1 : Int32) = 0 by decide) (show _ = _ from qo222) (by omega)
  have k24 : KI (80 * s) 70 (img o a) (a 26) o24.2.2 := k22.o qo243 (img_o 5 (by omega))
  have E := eX7_passesAll_1 o a (nI s) 1 _ o2 o3 o4 o5 o6 o7 o8 o9 o10 o11 o12 o13 o14 _ o16 _ o18 _ o20 _ o22 _ o24 _ rfl e2 e3 e4 e5 e6 e7 e8 e9 e10 e11 e12 e13 rfl e14 rfl e16 rfl e18 rfl e20 rfl e22 rfl e24
  refine ⟨o24.2.1, o24.2.2, E.trans ?_, k24⟩
  rw [qo141, qo161, qo181, qo201, qo221, qo241, qo22, qo32, qo42, qo52, qo62, qo72, qo82, qo92, qo102, qo112, qo122, qo132]
theorem pa_r {o : Nat → Int32} {a : Nat → Nat → Int32} {s : Nat} (hs : s ≤ 1) : ∃ (x : Int32) (f1 f2 f3 f4 f5 f6 f7 f8 f9 f10 f11 f12 : Nat → Int32), F_X7_passesAll o a (nI s) 0 = (a 26 (80 * s + 64), a 26 (80 * s + 65), a 26 (80 * s + 66), a 26 (80 * s + 67), a 26 (80 * s + 68), a 26 (80 * s + 69), 0, x, f1, f2, f3, f4, f5, f6, f7, f8, f9, f10, f11, f12, a 26) ∧ (∀ j, j < 8 → f1 j = a 26 (80 * s + 0 + j)) ∧ (∀ j, j < 8 → f2 j = a 26 (80 * s + 8 + j)) ∧ (∀ j, j < 8 → f3 j = a 26 (80 * s + 16 + j)) ∧ (∀ j, j < 8 → f4 j = a 26 (80 * s + 24 + j)) ∧ (∀ j, j < 4 → f5 j = a 26 (80 * s + 32 + j)) ∧ (∀ j, j < 4 → f6 j = a 26 (80 * s + 36 + j)) ∧ (∀ j, j < 4 → f7 j = a 26 (80 * s + 40 + j)) ∧ (∀ j, j < 4 → f8 j = a 26 (80 * s + 44 + j)) ∧ (∀ j, j < 4 → f9 j = a 26 (80 * s + 48 + j)) ∧ (∀ j, j < 4 → f10 j = a 26 (80 * s + 52 + j)) ∧ (∀ j, j < 4 → f11 j = a 26 (80 * s + 56 + j)) ∧ (∀ j, j < 4 → f12 j = a 26 (80 * s + 60 + j)) := by
  have h80 : (80 : Int32) * nI s = nI (80 * s + 0) := by
    match s, hs with
    | 0, _ => rfl
    | 1, _ => rfl
  have k1 : a 26 = a 26 := rfl
  obtain ⟨o2, e2⟩ : ∃ z, z = F_X7_passes (upd (upd o 28 0) 29 (80 * nI s)) a (a 1) 8 := ⟨_, rfl⟩
  obtain ⟨qo21, qo22, qo23⟩ := ps_r (c := 80 * s + 0) e2 rfl (show _ = _ from h80) (by omega)
  have k2 : o2.2.1 = a 26 := qo22
  have g1 : ∀ j, j < 8 → o2.2.2 j = a 26 (80 * s + 0 + j) := fun j hj => (qo23 j hj).trans (rfl)
  obtain ⟨o3, e3⟩ : ∃ z, z = F_X7_passes (upd (upd o 28 0) 29 o2.1) (va_up (va_up a 1 o2.2.2) 26 o2.2.1) (a 2) 8 := ⟨_, rfl⟩
  obtain ⟨qo31, qo32, qo33⟩ := ps_r (c := 80 * s + 8) e3 rfl (show _ = _ from qo21) (by omega)
  have k3 : o3.2.1 = a 26 := qo32.trans (show _ = _ from k2)
  have g2 : ∀ j, j < 8 → o3.2.2 j = a 26 (80 * s + 8 + j) := fun j hj => (qo33 j hj).trans (congrFun (show _ = _ from k2) _)
  obtain ⟨o4, e4⟩ : ∃ z, z = F_X7_passes (upd (upd o 28 0) 29 o3.1) (va_up (va_up (va_up a 1 o2.2.2) 2 o3.2.2) 26 o3.2.1) (a 3) 8 := ⟨_, rfl⟩
  obtain ⟨qo41, qo42, qo43⟩ := ps_r (c := 80 * s + 16) e4 rfl (show _ = _ from qo31) (by omega)
  have k4 : o4.2.1 = a 26 := qo42.trans (show _ = _ from k3)
  have g3 : ∀ j, j < 8 → o4.2.2 j = a 26 (80 * s + 16 + j) := fun j hj => (qo43 j hj).trans (congrFun (show _ = _ from k3) _)
  obtain ⟨o5, e5⟩ : ∃ z, z = F_X7_passes (upd (upd o 28 0) 29 o4.1) (va_up (va_up (va_up (va_up a 1 o2.2.2) 2 o3.2.2) 3 o4.2.2) 26 o4.2.1) (a 4) 8 := ⟨_, rfl⟩
  obtain ⟨qo51, qo52, qo53⟩ := ps_r (c := 80 * s + 24) e5 rfl (show _ = _ from qo41) (by omega)
  have k5 : o5.2.1 = a 26 := qo52.trans (show _ = _ from k4)
  have g4 : ∀ j, j < 8 → o5.2.2 j = a 26 (80 * s + 24 + j) := fun j hj => (qo53 j hj).trans (congrFun (show _ = _ from k4) _)
  obtain ⟨o6, e6⟩ : ∃ z, z = F_X7_passes (upd (upd o 28 0) 29 o5.1) (va_up (va_up (va_up (va_up (va_up a 1 o2.2.2) 2 o3.2.2) 3 o4.2.2) 4 o5.2.2) 26 o5.2.1) (a 5) 4 := ⟨_, rfl⟩
  obtain ⟨qo61, qo62, qo63⟩ := ps_r (c := 80 * s + 32) e6 rfl (show _ = _ from qo51) (by omega)
  have k6 : o6.2.1 = a 26 := qo62.trans (show _ = _ from k5)
  have g5 : ∀ j, j < 4 → o6.2.2 j = a 26 (80 * s + 32 + j) := fun j hj => (qo63 j hj).trans (congrFun (show _ = _ from k5) _)
  obtain ⟨o7, e7⟩ : ∃ z, z = F_X7_passes (upd (upd o 28 0) 29 o6.1) (va_up (va_up (va_up (va_up (va_up (va_up a 1 o2.2.2) 2 o3.2.2) 3 o4.2.2) 4 o5.2.2) 5 o6.2.2) 26 o6.2.1) (a 6) 4 := ⟨_, rfl⟩
  obtain ⟨qo71, qo72, qo73⟩ := ps_r (c := 80 * s + 36) e7 rfl (show _ = _ from qo61) (by omega)
  have k7 : o7.2.1 = a 26 := qo72.trans (show _ = _ from k6)
  have g6 : ∀ j, j < 4 → o7.2.2 j = a 26 (80 * s + 36 + j) := fun j hj => (qo73 j hj).trans (congrFun (show _ = _ from k6) _)
  obtain ⟨o8, e8⟩ : ∃ z, z = F_X7_passes (upd (upd o 28 0) 29 o7.1) (va_up (va_up (va_up (va_up (va_up (va_up (va_up a 1 o2.2.2) 2 o3.2.2) 3 o4.2.2) 4 o5.2.2) 5 o6.2.2) 6 o7.2.2) 26 o7.2.1) (a 7) 4 := ⟨_, rfl⟩
  obtain ⟨qo81, qo82, qo83⟩ := ps_r (c := 80 * s + 40) e8 rfl (show _ = _ from qo71) (by omega)
  have k8 : o8.2.1 = a 26 := qo82.trans (show _ = _ from k7)
  have g7 : ∀ j, j < 4 → o8.2.2 j = a 26 (80 * s + 40 + j) := fun j hj => (qo83 j hj).trans (congrFun (show _ = _ from k7) _)
  obtain ⟨o9, e9⟩ : ∃ z, z = F_X7_passes (upd (upd o 28 0) 29 o8.1) (va_up (va_up (va_up (va_up (va_up (va_up (va_up (va_up a 1 o2.2.2) 2 o3.2.2) 3 o4.2.2) 4 o5.2.2) 5 o6.2.2) 6 o7.2.2) 7 o8.2.2) 26 o8.2.1) (a 8) 4 := ⟨_, rfl⟩
  obtain ⟨qo91, qo92, qo93⟩ := ps_r (c := 80 * s + 44) e9 rfl (show _ = _ from qo81) (by omega)
  have k9 : o9.2.1 = a 26 := qo92.trans (show _ = _ from k8)
  have g8 : ∀ j, j < 4 → o9.2.2 j = a 26 (80 * s + 44 + j) := fun j hj => (qo93 j hj).trans (congrFun (show _ = _ from k8) _)
  obtain ⟨o10, e10⟩ : ∃ z, z = F_X7_passes (upd (upd o 28 0) 29 o9.1) (va_up (va_up (va_up (va_up (va_up (va_up (va_up (va_up (va_up a 1 o2.2.2) 2 o3.2.2) 3 o4.2.2) 4 o5.2.2) 5 o6.2.2) 6 o7.2.2) 7 o8.2.2) 8 o9.2.2) 26 o9.2.1) (a 9) 4 := ⟨_, rfl⟩
  obtain ⟨qo101, qo102, qo103⟩ := ps_r (c := 80 * s + 48) e10 rfl (show _ = _ from qo91) (by omega)
  have k10 : o10.2.1 = a 26 := qo102.trans (show _ = _ from k9)
  have g9 : ∀ j, j < 4 → o10.2.2 j = a 26 (80 * s + 48 + j) := fun j hj => (qo103 j hj).trans (congrFun (show _ = _ from k9) _)
  obtain ⟨o11, e11⟩ : ∃ z, z = F_X7_passes (upd (upd o 28 0) 29 o10.1) (va_up (va_up (va_up (va_up (va_up (va_up (va_up (va_up (va_up (va_up a 1 o2.2.2) 2 o3.2.2) 3 o4.2.2) 4 o5.2.2) 5 o6.2.2) 6 o7.2.2) 7 o8.2.2) 8 o9.2.2) 9 o10.2.2) 26 o10.2.1) (a 10) 4 := ⟨_, rfl⟩
  obtain ⟨qo111, qo112, qo113⟩ := ps_r (c := 80 * s + 52) e11 rfl (show _ = _ from qo101) (by omega)
  have k11 : o11.2.1 = a 26 := qo112.trans (show _ = _ from k10)
  have g10 : ∀ j, j < 4 → o11.2.2 j = a 26 (80 * s + 52 + j) := fun j hj => (qo113 j hj).trans (congrFun (show _ = _ from k10) _)
  obtain ⟨o12, e12⟩ : ∃ z, z = F_X7_passes (upd (upd o 28 0) 29 o11.1) (va_up (va_up (va_up (va_up (va_up (va_up (va_up (va_up (va_up (va_up (va_up a 1 o2.2.2) 2 o3.2.2) 3 o4.2.2) 4 o5.2.2) 5 o6.2.2) 6 o7.2.2) 7 o8.2.2) 8 o9.2.2) 9 o10.2.2) 10 o11.2.2) 26 o11.2.1) (a 11) 4 := ⟨_, rfl⟩
  obtain ⟨qo121, qo122, qo123⟩ := ps_r (c := 80 * s + 56) e12 rfl (show _ = _ from qo111) (by omega)
  have k12 : o12.2.1 = a 26 := qo122.trans (show _ = _ from k11)
  have g11 : ∀ j, j < 4 → o12.2.2 j = a 26 (80 * s + 56 + j) := fun j hj => (qo123 j hj).trans (congrFun (show _ = _ from k11) _)
  obtain ⟨o13, e13⟩ : ∃ z, z = F_X7_passes (upd (upd o 28 0) 29 o12.1) (va_up (va_up (va_up (va_up (va_up (va_up (va_up (va_up (va_up (va_up (va_up (va_up a 1 o2.2.2) 2 o3.2.2) 3 o4.2.2) 4 o5.2.2) 5 o6.2.2) 6 o7.2.2) 7 o8.2.2) 8 o9.2.2) 9 o10.2.2) 10 o11.2.2) 11 o12.2.2) 26 o12.2.1) (a 12) 4 := ⟨_, rfl⟩
  obtain ⟨qo131, qo132, qo133⟩ := ps_r (c := 80 * s + 60) e13 rfl (show _ = _ from qo121) (by omega)
  have k13 : o13.2.1 = a 26 := qo132.trans (show _ = _ from k12)
  have g12 : ∀ j, j < 4 → o13.2.2 j = a 26 (80 * s + 60 + j) := fun j hj => (qo133 j hj).trans (congrFun (show _ = _ from k12) _)
  obtain ⟨o14, e14⟩ : ∃ z, z = F_X7_passOne (upd (upd o 28 0) 29 o13.1) (va_up (va_up (va_up (va_up (va_up (va_up (va_up (va_up (va_up (va_up (va_up (va_up (va_up a 1 o2.2.2) 2 o3.2.2) 3 o4.2.2) 4 o5.2.2) 5 o6.2.2) 6 o7.2.2) 7 o8.2.2) 8 o9.2.2) 9 o10.2.2) 10 o11.2.2) 11 o12.2.2) 12 o13.2.2) 26 o13.2.1) (o 13) := ⟨_, rfl⟩
  obtain ⟨qo141, qo142, qo143⟩ := po_r (c := 80 * s + 64) e14 rfl (show _ = _ from qo131) (by omega)
  have k14 : o14.2.2 = a 26 := qo143.trans (show _ = _ from k13)
  have r13 : o14.1 = a 26 (80 * s + 64) := qo141.trans (congrFun (show _ = _ from k13) _)
  obtain ⟨o16, e16⟩ : ∃ z, z = F_X7_passOne (upd (upd (upd o 13 o14.1) 28 0) 29 o14.2.1) (va_up (va_up (va_up (va_up (va_up (va_up (va_up (va_up (va_up (va_up (va_up (va_up (va_up a 1 o2.2.2) 2 o3.2.2) 3 o4.2.2) 4 o5.2.2) 5 o6.2.2) 6 o7.2.2) 7 o8.2.2) 8 o9.2.2) 9 o10.2.2) 10 o11.2.2) 11 o12.2.2) 12 o13.2.2) 26 o14.2.2) (o 14) := ⟨_, rfl⟩
  obtain ⟨qo161, qo162, qo163⟩ := po_r (c := 80 * s + 65) e16 rfl (show _ = _ from qo142) (by omega)
  have k16 : o16.2.2 = a 26 := qo163.trans (show _ = _ from k14)
  have r14 : o16.1 = a 26 (80 * s + 65) := qo161.trans (congrFun (show _ = _ from k14) _)
  obtain ⟨o18, e18⟩ : ∃ z, z = F_X7_passOne (upd (upd (upd (upd o 13 o14.1) 14 o16.1) 28 0) 29 o16.2.1) (va_up (va_up (va_up (va_up (va_up (va_up (va_up (va_up (va_up (va_up (va_up (va_up (va_up a 1 o2.2.2) 2 o3.2.2) 3 o4.2.2) 4 o5.2.2) 5 o6.2.2) 6 o7.2.2) 7 o8.2.2) 8 o9.2.2) 9 o10.2.2) 10 o11.2.2) 11 o12.2.2) 12 o13.2.2) 26 o16.2.2) (o 15) := ⟨_, rfl⟩
  obtain ⟨qo181, qo182, qo183⟩ := po_r (c := 80 * s + 66) e18 rfl (show _ = _ from qo162) (by omega)
  have k18 : o18.2.2 = a 26 := qo183.trans (show _ = _ from k16)
  have r15 : o18.1 = a 26 (80 * s + 66) := qo181.trans (congrFun (show _ = _ from k16) _)
  obtain ⟨o20, e20⟩ : ∃ z, z = F_X7_passOne (upd (upd (upd (upd (upd o 13 o14.1) 14 o16.1) 15 o18.1) 28 0) 29 o18.2.1) (va_up (va_up (va_up (va_up (va_up (va_up (va_up (va_up (va_up (va_up (va_up (va_up (va_up a 1 o2.2.2) 2 o3.2.2) 3 o4.2.2) 4 o5.2.2) 5 o6.2.2) 6 o7.2.2) 7 o8.2.2) 8 o9.2.2) 9 o10.2.2) 10 o11.2.2) 11 o12.2.2) 12 o13.2.2) 26 o18.2.2) (o 16) := ⟨_, rfl⟩
  obtain ⟨qo201, qo202, qo203⟩ := po_r (c := 80 * s + 67) e20 rfl (show _ = _ from qo182) (by omega)
  have k20 : o20.2.2 = a 26 := qo203.trans (show _ = _ from k18)
  have r16 : o20.1 = a 26 (80 * s + 67) := qo201.trans (congrFun (show _ = _ from k18) _)
  obtain ⟨o22, e22⟩ : ∃ z, z = F_X7_passOne (upd (upd (upd (upd (upd (upd o 13 o14.1) 14 o16.1) 15 o18.1) 16 o20.1) 28 0) 29 o20.2.1) (va_up (va_up (va_up (va_up (va_up (va_up (va_up (va_up (va_up (va_up (va_up (va_up (va_up a 1 o2.2.2) 2 o3.2.2) 3 o4.2.2) 4 o5.2.2) 5 o6.2.2) 6 o7.2.2) 7 o8.2.2) 8 o9.2.2) 9 o10.2.2) 10 o11.2.2) 11 o12.2.2) 12 o13.2.2) 26 o20.2.2) (o 17) := ⟨_, rfl⟩
  obtain ⟨qo221, qo222, qo223⟩ := po_r (c := 80 * s + 68) e22 rfl (show _ = _ from qo202) (by omega)
  have k22 : o22.2.2 = a 26 := qo223.trans (show _ = _ from k20)
  have r17 : o22.1 = a 26 (80 * s + 68) := qo221.trans (congrFun (show _ = _ from k20) _)
  obtain ⟨o24, e24⟩ : ∃ z, z = F_X7_passOne (upd (upd (upd (upd (upd (upd (upd o 13 o14.1) 14 o16.1) 15 o18.1) 16 o20.1) 17 o22.1) 28 0) 29 o22.2.1) (va_up (va_up (va_up (va_up (va_up (va_up (va_up (va_up (va_up (va_up (va_up (va_up (va_up a 1 o2.2.2) 2 o3.2.2) 3 o4.2.2) 4 o5.2.2) 5 o6.2.2) 6 o7.2.2) 7 o8.2.2) 8 o9.2.2) 9 o10.2.2) 10 o11.2.2) 11 o12.2.2) 12 o13.2.2) 26 o22.2.2) (o 18) := ⟨_, rfl⟩
  obtain ⟨qo241, qo242, qo243⟩ := po_r (c := 80 * s + 69) e24 rfl (show _ = _ from qo222) (by omega)
  have k24 : o24.2.2 = a 26 := qo243.trans (show _ = _ from k22)
  have r18 : o24.1 = a 26 (80 * s + 69) := qo241.trans (congrFun (show _ = _ from k22) _)
  have E := eX7_passesAll_1 o a (nI s) 0 _ o2 o3 o4 o5 o6 o7 o8 o9 o10 o11 o12 o13 o14 _ o16 _ o18 _ o20 _ o22 _ o24 _ rfl e2 e3 e4 e5 e6 e7 e8 e9 e10 e11 e12 e13 rfl e14 rfl e16 rfl e18 rfl e20 rfl e22 rfl e24
  refine ⟨o24.2.1, o2.2.2, o3.2.2, o4.2.2, o5.2.2, o6.2.2, o7.2.2, o8.2.2, o9.2.2, o10.2.2, o11.2.2, o12.2.2, o13.2.2, E.trans ?_, g1, g2, g3, g4, g5, g6, g7, g8, g9, g10, g11, g12⟩
  rw [r13, r14, r15, r16, r17, r18, k24]
