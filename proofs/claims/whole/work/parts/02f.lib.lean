theorem x_keep2 {A0 : Nat → Prop} {D : va_G} {cl : List vw_C} {a a2 t wc w1 : va_W} {H H1 : Heap} (is isR : List Nat) (hP : va_P D cl (a ++ t) H) (hD : va_D A0 (a ++ t)) (hC : is.map (fun i => (a ++ t)[i]?) = wc.map some) (ha : a2.map Prod.fst = a.map Prod.fst) (hb : is.map (fun i => a2[i]?) = w1.map some) (hc : isR.map (fun i => a2[i]?) = isR.map (fun i => a[i]?)) (hv : (List.range a.length).all (fun k => is.contains k || isR.contains k) = true) (hk : ∀ q : Nat, q < H.size → ¬ va_A wc H.size q → H1[q]? = H[q]?) (hP1 : va_P D cl w1 H1) : va_P D cl (a2 ++ t) H1 ∧ va_D A0 (a2 ++ t) := by
  have hl : a2.length = a.length := by have := congrArg List.length ha; simpa using this
  refine ⟨fun k q h => ?_, x_D_of (by rw [List.map_append, List.map_append, ha]) hD⟩
  by_cases hk2 : k < a.length
  · have h0 : a2[k]? = some q := by rw [List.getElem?_append_left (by omega)] at h; exact h
    have hv1 := List.all_eq_true.mp hv k (List.mem_range.mpr hk2)
    by_cases hi : k ∈ is
    · obtain ⟨j, hj⟩ := List.getElem?_of_mem hi
      have h1 : (is.map (fun i => a2[i]?))[j]? = some (some q) := by rw [List.getElem?_map, hj]; exact congrArg some h0
      rw [hb, List.getElem?_map] at h1
      cases hw : w1[j]? with
      | none => rw [hw] at h1; cases h1
      | some q' => rw [hw] at h1; cases h1; exact hP1 j _ hw
    · have hiR : k ∈ isR := by
        rcases Bool.or_eq_true _ _ |>.mp hv1 with g | g
        · exact absurd (List.contains_iff_mem.mp g) hi
        · exact List.contains_iff_mem.mp g
      obtain ⟨j, hj⟩ := List.getElem?_of_mem hiR
      have h1 : (isR.map (fun i => a2[i]?))[j]? = some (some q) := by rw [List.getElem?_map, hj]; exact congrArg some h0
      rw [hc, List.getElem?_map, hj] at h1
      have h2 : (a ++ t)[k]? = some q := by rw [List.getElem?_append_left hk2]; exact Option.some.inj h1
      obtain ⟨g1, g2⟩ := x_off hP hD hC h2 hi
      exact (hP k q h2).kept (hk q.1 g1 g2)
  · have h2 : (a ++ t)[k]? = some q := by
      rw [List.getElem?_append_right (by omega)] at h ⊢
      rw [← hl]
      exact h
    by_cases hi : k ∈ is
    · obtain ⟨j, hj⟩ := List.getElem?_of_mem hi
      have h3 : (is.map (fun i => a2[i]?))[j]? = some none := by
        rw [List.getElem?_map, hj]
        exact congrArg some (List.getElem?_eq_none_iff.mpr (by omega))
      rw [hb, List.getElem?_map] at h3
      cases hw : w1[j]? with
      | none => rw [hw] at h3; cases h3
      | some q' => rw [hw] at h3; cases h3
    · obtain ⟨g1, g2⟩ := x_off hP hD hC h2 hi
      exact (hP k q h2).kept (hk q.1 g1 g2)
section XW
variable {p : Program} {l : Launch} {e : Env} {R : Room} {s : State} {m : MethodId} {args : Array Value} {below : List Frame} {meth : Method} {c : Code} {H H0 : Heap} {locs : List Loc} {cells slots : Nat} {Q : State → Prop} {cc : ByteArray} {pc : Nat} {ls : Array Slot} {rest : List Value}
theorem x_wi2 {O : Type} {o0 : O} (rO : O → Int32) (cO : O → va_W) (wO : O → va_W) {D : va_G} {a t wc : va_W} {A : Nat → Prop} {st : List Value} {as : Array Value} (is isR : List Nat)
    (hr : va_Run p l e R s m args below meth c H locs cells slots 0 0 (F0 m pc ls st) rest (va_Qi (fun (r' : Int32) (_ : Unit) => r' = rO o0) (xE D (cO o0)) (va_A wc H.size) as) (va_A wc H.size))
    (hP : va_P D vwCl (a ++ t) H) (hD : va_D A (a ++ t)) (hS : va_S A H0 H locs) (hA : ∀ q, H0.size ≤ q → A q) (hC : is.map (fun i => (a ++ t)[i]?) = wc.map some)
    (ha : ∀ o, (wO o).map Prod.fst = a.map Prod.fst) (hb : ∀ o, is.map (fun i => (wO o)[i]?) = (cO o).map some) (L : va_W) (hc1 : isR.map (fun i => a[i]?) = L.map some) (hc2 : ∀ o, isR.map (fun i => (wO o)[i]?) = L.map some) (hv : (List.range a.length).all (fun k => is.contains k || isR.contains k) = true)
    (kk : ∀ (o : O) (r : Int32) (H1 : Heap) (locs1 : List Loc), o = o0 → r = rO o → va_P D vwCl (wO o ++ t) H1 → va_D A (wO o ++ t) → va_S A H0 H1 locs1 → W p l e R s m args below meth c H1 locs1 cells slots Q (F0 m (pc + 3) ls (.int r :: rest))) : W p l e R s m args below meth c H locs cells slots Q (F0 m pc ls st) := by
  have hF := va_free hD hS hA is hC
  refine va_calli hr hS (fun q _ h => hF q h) hF (fun r u t H1 locs1 ht hvm hw hB hz1 hk1 hS => ?_)
  obtain ⟨g1, g2⟩ := x_keep2 is isR hP hD hC (ha o0) (hb o0) ((hc2 o0).trans hc1.symm) hv hk1 (by rw [← ht]; exact hB)
  exact kk o0 r H1 locs1 rfl hw g1 g2 hS
theorem x_wv2 {O : Type} {o0 : O} (cO : O → va_W) (wO : O → va_W) {D : va_G} {a t wc : va_W} {A : Nat → Prop} {st : List Value} {as : Array Value} (is isR : List Nat)
    (hr : va_Run p l e R s m args below meth c H locs cells slots 0 0 (F0 m pc ls st) rest (va_Qv (fun (_ : Unit) => True) (xE D (cO o0)) (va_A wc H.size) as) (va_A wc H.size))
    (hP : va_P D vwCl (a ++ t) H) (hD : va_D A (a ++ t)) (hS : va_S A H0 H locs) (hA : ∀ q, H0.size ≤ q → A q) (hC : is.map (fun i => (a ++ t)[i]?) = wc.map some)
    (ha : ∀ o, (wO o).map Prod.fst = a.map Prod.fst) (hb : ∀ o, is.map (fun i => (wO o)[i]?) = (cO o).map some) (L : va_W) (hc1 : isR.map (fun i => a[i]?) = L.map some) (hc2 : ∀ o, isR.map (fun i => (wO o)[i]?) = L.map some) (hv : (List.range a.length).all (fun k => is.contains k || isR.contains k) = true)
    (kk : ∀ (o : O) (H1 : Heap) (locs1 : List Loc), o = o0 → va_P D vwCl (wO o ++ t) H1 → va_D A (wO o ++ t) → va_S A H0 H1 locs1 → W p l e R s m args below meth c H1 locs1 cells slots Q (F0 m (pc + 3) ls rest)) : W p l e R s m args below meth c H locs cells slots Q (F0 m pc ls st) := by
  have hF := va_free hD hS hA is hC
  refine va_callv hr hS (fun q _ h => hF q h) hF (fun u t H1 locs1 ht hvm hw hB hz1 hk1 hS => ?_)
  obtain ⟨g1, g2⟩ := x_keep2 is isR hP hD hC (ha o0) (hb o0) ((hc2 o0).trans hc1.symm) hv hk1 (by rw [← ht]; exact hB)
  exact kk o0 H1 locs1 rfl g1 g2 hS
end XW
