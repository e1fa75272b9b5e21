/-- what a method finds: the size, its cells, the classes, the cells apart, the words of the nest -/
def xB (D : va_G) (ty : List (ClassId × FieldType)) (sz : Nat) (ws : va_W) : State → Prop := fun U => U.heap.size = sz ∧ va_P D vwCl ws U.heap ∧ va_K D vwCl ty U ∧ va_D (fun _ => True) ws ∧ NW U
/-- what a method leaves -/
def xE (D : va_G) (ws' : va_W) : Unit → State → Prop := fun _ t => va_P D vwCl ws' t.heap
abbrev xR (f k : Nat) : Room := { frames := f, cells := 0, slots := 0, locals := k }
abbrev Xi (l : Launch) (y : MethodName) (wl : List Cond) (rm : Room) (D : va_G) (ty : List (ClassId × FieldType)) (as : List Value) (ws ws' : va_W) (r : Int32) : Prop := ∀ sz : Nat, Met l y wl rm (va_Pc as (xB D ty sz ws)) (va_Qi (fun (r' : Int32) (_ : Unit) => r' = r) (xE D ws') (va_A ws sz)) 0 0 (va_A ws sz)
abbrev Xl (l : Launch) (y : MethodName) (wl : List Cond) (rm : Room) (D : va_G) (ty : List (ClassId × FieldType)) (as : List Value) (ws ws' : va_W) (r : Int64) : Prop := ∀ sz : Nat, Met l y wl rm (va_Pc as (xB D ty sz ws)) (va_Ql (fun (r' : Int64) (_ : Unit) => r' = r) (xE D ws') (va_A ws sz)) 0 0 (va_A ws sz)
abbrev Xq (l : Launch) (y : MethodName) (wl : List Cond) (rm : Room) (D : va_G) (ty : List (ClassId × FieldType)) (as : List Value) (ws ws' : va_W) (r : Option Nat) : Prop := ∀ sz : Nat, Met l y wl rm (va_Pc as (xB D ty sz ws)) (va_Qq (fun (r' : Option Nat) (_ : Unit) => r' = r) (xE D ws') (va_A ws sz)) 0 0 (va_A ws sz)
abbrev Xv (l : Launch) (y : MethodName) (wl : List Cond) (rm : Room) (D : va_G) (ty : List (ClassId × FieldType)) (as : List Value) (ws ws' : va_W) : Prop := ∀ sz : Nat, Met l y wl rm (va_Pc as (xB D ty sz ws)) (va_Qv (fun (_ : Unit) => True) (xE D ws') (va_A ws sz)) 0 0 (va_A ws sz)
theorem x_blind {D : va_G} {ty : List (ClassId × FieldType)} {sz : Nat} {ws : va_W} {as : List Value} : FrameBlind (va_Pc as (xB D ty sz ws)) := fun a U g mk q => by
  obtain ⟨q0, q1, qP, qK, qD, qN⟩ := q
  exact ⟨q0, q1, qP, va_K.moved (u := U) (U := U.calling g mk a) (Vm.Alike.refl U.vm) qK, qD, NW.same (u := U) (U := U.calling g mk a) rfl qN⟩
theorem fb_rng0 (x : Int32) : -2147483648 ≤ x.toInt ∧ x.toInt < 2147483648 := ⟨x.le_toInt, x.toInt_lt⟩
theorem fb_bmod0 {z : Int} (h1 : -2147483648 ≤ z) (h2 : z < 2147483648) : z.bmod (2 ^ 32) = z := Int.bmod_eq_of_le (by omega) (by omega)
section XL
variable {p : Program} {l : Launch} {e : Env} {R : Room} {s : State} {m : MethodId} {args : Array Value} {below : List Frame} {meth : Method} {c : Code} {H H0 : Heap} {locs : List Loc} {cells slots : Nat} {Q : State → Prop} {cc : ByteArray} {pc : Nat} {ls : Array Slot} {rest : List Value}
theorem x_in {y : MethodName} {wl wl' : List Cond} {maxL : Nat} {ret : Option FieldType} {rm : Room} {D : va_G} {ty : List (ClassId × FieldType)} {as : List Value} {ws : va_W} {Qc : Array Value → State → Outcome → State → Prop} {sz : Nat}
    (hy : plainName y.cls = true) (hw : wl = Cond.code y cc maxL ret :: wl') (hlen : (lg_sl as).length ≤ maxL)
    (k : ∀ (p : Program) (e : Env) (s : State) (m : MethodId) (below : List Frame) (meth : Method) (c : Code) (A : Nat → Prop) (ls : Array Slot), CallFix p m c cc maxL s as.toArray wl y.cls → meth.sig.returnType = ret → meth.locks = false → NW s → va_K D vwCl ty s → va_P D vwCl ws s.heap → A = va_A ws sz → va_D A ws → (∀ q, s.heap.size ≤ q → A q) → va_S A s.heap s.heap [] → lv_has ls maxL (lv_args 0 as) →
      W p l e rm s m as.toArray below meth c s.heap [] 0 0 (MQ below Qc as.toArray s 0 0 A) (F0 m 0 ls [])) : Met l y wl rm (va_Pc as (xB D ty sz ws)) Qc 0 0 (va_A ws sz) := by
  refine Met.ofW (cc := cc) (maxL := maxL) (ret := ret) hy hw ?_
  intro p e s m args below meth c s₁ B hml hv
  obtain ⟨rfl, hsz, hP, hK, hD0, hN⟩ := hv
  have hts := atoms_spec (ws := wl) B.pre
  have hown : s.vm.findClass y.cls = some m.cls := findClass_of_methodNamed B.named
  subst hsz
  have hD := hD0.self (sz := s.heap.size)
  rw [lg_entry_eq]
  exact k p e s m below meth c _ _ ⟨B.exec, B.bytes, hml, hown, hts⟩ B.returns B.notSynchronized hN hK hP rfl hD (fun q h => Or.inr h) va_S.rf (lv_entry as hlen)
theorem xi_ret {D : va_G} {A : Nat → Prop} {wz ws' : va_W} {r v : Int32} (hx : p.tables.exec = Jvm.exec) (hb : c.code = cc) (hr : meth.sig.returnType = some .int) (hlocks : meth.locks = false) (hP : va_P D vwCl wz H) (hS : va_S A s.heap H locs) (hw : wz = ws') (hv : v = r) (hd : decode cc pc = .ok (.ireturn, 1)) :
    W p l e R s m args below meth c H locs cells slots (MQ below (va_Qi (fun (r' : Int32) (_ : Unit) => r' = r) (xE D ws') A) args s cells slots A) (F0 m pc ls [.int v]) := by
  subst hw
  exact W.iret (v := v) hx hb hr (fun t ht hW => ⟨⟨v, (), rfl, hv, by show va_P D vwCl wz t.heap; rw [ht]; exact hP⟩, hS.F ht⟩) hS.2.2 hd hlocks
theorem xz_ret {D : va_G} {A : Nat → Prop} {wz ws' : va_W} {r v : Int32} (hx : p.tables.exec = Jvm.exec) (hb : c.code = cc) (hr : meth.sig.returnType = some .boolean) (hlocks : meth.locks = false) (hP : va_P D vwCl wz H) (hS : va_S A s.heap H locs) (hw : wz = ws') (hv : v = r) (hd : decode cc pc = .ok (.ireturn, 1)) (hz : narrow .boolean (.int v) = .int v) :
    W p l e R s m args below meth c H locs cells slots (MQ below (va_Qi (fun (r' : Int32) (_ : Unit) => r' = r) (xE D ws') A) args s cells slots A) (F0 m pc ls [.int v]) := by
  subst hw
  exact W.zret (v := v) hx hb hr hz (fun t ht hW => ⟨⟨v, (), rfl, hv, by show va_P D vwCl wz t.heap; rw [ht]; exact hP⟩, hS.F ht⟩) hS.2.2 hd hlocks
theorem xl_ret {D : va_G} {A : Nat → Prop} {wz ws' : va_W} {r v : Int64} (hx : p.tables.exec = Jvm.exec) (hb : c.code = cc) (hr : meth.sig.returnType = some .long) (hlocks : meth.locks = false) (hP : va_P D vwCl wz H) (hS : va_S A s.heap H locs) (hw : wz = ws') (hv : v = r) (hd : decode cc pc = .ok (.lreturn, 1)) :
    W p l e R s m args below meth c H locs cells slots (MQ below (va_Ql (fun (r' : Int64) (_ : Unit) => r' = r) (xE D ws') A) args s cells slots A) (F0 m pc ls [.long v]) := by
  subst hw
  exact W.lret (v := v) hx hb hr (fun t ht hW => ⟨⟨v, (), rfl, hv, by show va_P D vwCl wz t.heap; rw [ht]; exact hP⟩, hS.F ht⟩) hS.2.2 hd hlocks
theorem xv_ret {D : va_G} {A : Nat → Prop} {wz ws' : va_W} (hx : p.tables.exec = Jvm.exec) (hb : c.code = cc) (hr : meth.sig.returnType = none) (hlocks : meth.locks = false) (hP : va_P D vwCl wz H) (hS : va_S A s.heap H locs) (hw : wz = ws') (hd : decode cc pc = .ok (.return_, 1)) :
    W p l e R s m args below meth c H locs cells slots (MQ below (va_Qv (fun (_ : Unit) => True) (xE D ws') A) args s cells slots A) (F0 m pc ls []) := by
  subst hw
  exact W.vret hx hb hr (fun t ht hW => ⟨⟨(), rfl, trivial, by show va_P D vwCl wz t.heap; rw [ht]; exact hP⟩, hS.F ht⟩) hS.2.2 hd hlocks
theorem xq_ret {D : va_G} {A : Nat → Prop} {wz ws' : va_W} {r v : Option Nat} {n : String} (hx : p.tables.exec = Jvm.exec) (hb : c.code = cc) (hr : meth.sig.returnType = some (.object n)) (hlocks : meth.locks = false) (hP : va_P D vwCl wz H) (hS : va_S A s.heap H locs) (hw : wz = ws') (hv : v = r) (hd : decode cc pc = .ok (.areturn, 1)) :
    W p l e R s m args below meth c H locs cells slots (MQ below (va_Qq (fun (r' : Option Nat) (_ : Unit) => r' = r) (xE D ws') A) args s cells slots A) (F0 m pc ls [va_rf v]) := by
  subst hw
  exact W.aret (v := va_rf v) hx hb hr (Or.inl ⟨n, rfl⟩) (by cases v with | none => exact Or.inl rfl | some a => exact Or.inr ⟨a, rfl⟩) (fun t ht hW => ⟨⟨v, (), rfl, hv, by show va_P D vwCl wz t.heap; rw [ht]; exact hP⟩, hS.F ht⟩) hS.2.2 hd hlocks
/-- a call's premises: of an instance's method -/
theorem x_pv {D : va_G} {ty : List (ClassId × FieldType)} {ws wc : va_W} {A : Nat → Prop} {b ci q0 : Nat} {C : vw_C} {fs As : List Value} (hN : NW s) (hK : va_K D vwCl ty s) (hP : va_P D vwCl ws H) (hD : va_D A ws) (is : List Nat) (hC : is.map (fun i => ws[i]?) = wc.map some) (hn : va_nd is = true) (hc : vwCl[ci]? = some C) (he : ws[q0]? = some (b, .inr (ci, fs))) : PreV s H C.1 b (va_Pc (.ref b :: As) (xB D ty H.size wc)) As :=
  ⟨x_blind, va_recv hK hP hc he, fun U hU hW => ⟨rfl, by rw [hU], by rw [hU]; exact x_cut is hP hC, va_K.moved hW.alike hK, (hD.sub is hn hC).weaken (fun _ _ _ _ => trivial), hN.warm hW⟩⟩
/-- of a static one -/
theorem x_ps {D : va_G} {ty : List (ClassId × FieldType)} {ws wc : va_W} {A : Nat → Prop} {As : List Value} (hN : NW s) (hK : va_K D vwCl ty s) (hP : va_P D vwCl ws H) (hD : va_D A ws) (is : List Nat) (hC : is.map (fun i => ws[i]?) = wc.map some) (hn : va_nd is = true) : PreS s H (va_Pc As (xB D ty H.size wc)) As :=
  ⟨x_blind, fun U hU hW => ⟨rfl, by rw [hU], by rw [hU]; exact x_cut is hP hC, va_K.moved hW.alike hK, (hD.sub is hn hC).weaken (fun _ _ _ _ => trivial), hN.warm hW⟩⟩
theorem x_ci {D : va_G} {ws wc : va_W} {A : Nat → Prop} {st : List Value} {as : Array Value} {r0 : Int32} (is : List Nat)
    (hr : va_Run p l e R s m args below meth c H locs cells slots 0 0 (F0 m pc ls st) rest (va_Qi (fun (r' : Int32) (_ : Unit) => r' = r0) (xE D wc) (va_A wc H.size) as) (va_A wc H.size))
    (hP : va_P D vwCl ws H) (hD : va_D A ws) (hS : va_S A H0 H locs) (hA : ∀ q, H0.size ≤ q → A q) (hC : is.map (fun i => ws[i]?) = wc.map some)
    (kk : ∀ (r : Int32) (H1 : Heap) (locs1 : List Loc), r = r0 → va_P D vwCl ws H1 → va_S A H0 H1 locs1 → W p l e R s m args below meth c H1 locs1 cells slots Q (F0 m (pc + 3) ls (.int r :: rest))) : W p l e R s m args below meth c H locs cells slots Q (F0 m pc ls st) := by
  have hF := va_free hD hS hA is hC
  exact va_calli hr hS (fun q _ h => hF q h) hF (fun r u t H1 locs1 ht hvm hw hB hz1 hk1 hS => kk r H1 locs1 hw (x_same is hP hD hC hk1 (by rw [← ht]; exact hB)) hS)
theorem x_cl {D : va_G} {ws wc : va_W} {A : Nat → Prop} {st : List Value} {as : Array Value} {r0 : Int64} (is : List Nat)
    (hr : va_Run p l e R s m args below meth c H locs cells slots 0 0 (F0 m pc ls st) rest (va_Ql (fun (r' : Int64) (_ : Unit) => r' = r0) (xE D wc) (va_A wc H.size) as) (va_A wc H.size))
    (hP : va_P D vwCl ws H) (hD : va_D A ws) (hS : va_S A H0 H locs) (hA : ∀ q, H0.size ≤ q → A q) (hC : is.map (fun i => ws[i]?) = wc.map some)
    (kk : ∀ (r : Int64) (H1 : Heap) (locs1 : List Loc), r = r0 → va_P D vwCl ws H1 → va_S A H0 H1 locs1 → W p l e R s m args below meth c H1 locs1 cells slots Q (F0 m (pc + 3) ls (.long r :: rest))) : W p l e R s m args below meth c H locs cells slots Q (F0 m pc ls st) := by
  have hF := va_free hD hS hA is hC
  exact va_calll hr hS (fun q _ h => hF q h) hF (fun r u t H1 locs1 ht hvm hw hB hz1 hk1 hS => kk r H1 locs1 hw (x_same is hP hD hC hk1 (by rw [← ht]; exact hB)) hS)
theorem x_cq {D : va_G} {ws wc : va_W} {A : Nat → Prop} {st : List Value} {as : Array Value} {r0 : Option Nat} (is : List Nat)
    (hr : va_Run p l e R s m args below meth c H locs cells slots 0 0 (F0 m pc ls st) rest (va_Qq (fun (r' : Option Nat) (_ : Unit) => r' = r0) (xE D wc) (va_A wc H.size) as) (va_A wc H.size))
    (hP : va_P D vwCl ws H) (hD : va_D A ws) (hS : va_S A H0 H locs) (hA : ∀ q, H0.size ≤ q → A q) (hC : is.map (fun i => ws[i]?) = wc.map some)
    (kk : ∀ (r : Option Nat) (H1 : Heap) (locs1 : List Loc), r = r0 → va_P D vwCl ws H1 → va_S A H0 H1 locs1 → W p l e R s m args below meth c H1 locs1 cells slots Q (F0 m (pc + 3) ls (va_rf r :: rest))) : W p l e R s m args below meth c H locs cells slots Q (F0 m pc ls st) := by
  have hF := va_free hD hS hA is hC
  exact va_callq hr hS (fun q _ h => hF q h) hF (fun r u t H1 locs1 ht hvm hw hB hz1 hk1 hS => kk r H1 locs1 hw (x_same is hP hD hC hk1 (by rw [← ht]; exact hB)) hS)
/-- calls that write: the answer and the cells are read off one value -/
theorem x_wi {O : Type} {o0 : O} (rO : O → Int32) (cO : O → va_W) {D : va_G} {ws wc : va_W} {A : Nat → Prop} {st : List Value} {as : Array Value} (is : List Nat)
    (hr : va_Run p l e R s m args below meth c H locs cells slots 0 0 (F0 m pc ls st) rest (va_Qi (fun (r' : Int32) (_ : Unit) => r' = rO o0) (xE D (cO o0)) (va_A wc H.size) as) (va_A wc H.size))
    (hP : va_P D vwCl ws H) (hD : va_D A ws) (hS : va_S A H0 H locs) (hA : ∀ q, H0.size ≤ q → A q) (hC : is.map (fun i => ws[i]?) = wc.map some) (ha : ∀ o, is.map (fun i => (ws.map Prod.fst)[i]?) = (cO o).map (fun w => some w.1))
    (kk : ∀ (o : O) (r : Int32) (H1 : Heap) (locs1 : List Loc), o = o0 → r = rO o → va_P D vwCl (x_rep ws is (cO o)) H1 → va_D A (x_rep ws is (cO o)) → va_S A H0 H1 locs1 → W p l e R s m args below meth c H1 locs1 cells slots Q (F0 m (pc + 3) ls (.int r :: rest))) : W p l e R s m args below meth c H locs cells slots Q (F0 m pc ls st) := by
  have hF := va_free hD hS hA is hC
  refine va_calli hr hS (fun q _ h => hF q h) hF (fun r u t H1 locs1 ht hvm hw hB hz1 hk1 hS => ?_)
  obtain ⟨g1, g2⟩ := x_keep is hP hD hC (ha o0) hk1 (by rw [← ht]; exact hB)
  exact kk o0 r H1 locs1 rfl hw g1 g2 hS
theorem x_wv {O : Type} {o0 : O} (cO : O → va_W) {D : va_G} {ws wc : va_W} {A : Nat → Prop} {st : List Value} {as : Array Value} (is : List Nat)
    (hr : va_Run p l e R s m args below meth c H locs cells slots 0 0 (F0 m pc ls st) rest (va_Qv (fun (_ : Unit) => True) (xE D (cO o0)) (va_A wc H.size) as) (va_A wc H.size))
    (hP : va_P D vwCl ws H) (hD : va_D A ws) (hS : va_S A H0 H locs) (hA : ∀ q, H0.size ≤ q → A q) (hC : is.map (fun i => ws[i]?) = wc.map some) (ha : ∀ o, is.map (fun i => (ws.map Prod.fst)[i]?) = (cO o).map (fun w => some w.1))
    (kk : ∀ (o : O) (H1 : Heap) (locs1 : List Loc), o = o0 → va_P D vwCl (x_rep ws is (cO o)) H1 → va_D A (x_rep ws is (cO o)) → va_S A H0 H1 locs1 → W p l e R s m args below meth c H1 locs1 cells slots Q (F0 m (pc + 3) ls rest)) : W p l e R s m args below meth c H locs cells slots Q (F0 m pc ls st) := by
  have hF := va_free hD hS hA is hC
  refine va_callv hr hS (fun q _ h => hF q h) hF (fun u t H1 locs1 ht hvm hw hB hz1 hk1 hS => ?_)
  obtain ⟨g1, g2⟩ := x_keep is hP hD hC (ha o0) hk1 (by rw [← ht]; exact hB)
  exact kk o0 H1 locs1 rfl g1 g2 hS
end XL
