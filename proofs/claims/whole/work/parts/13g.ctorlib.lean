/-! constructors: what they find and leave -/
abbrev nU : Type := (Nat → Nat) × ClassId × ClassId
def nB (D : va_G) (sz : Nat) (ws : va_W) : State → Prop := fun U => U.heap.size = sz ∧ va_P D vwCl ws U.heap ∧ va_K D vwCl [] U ∧ va_D (fun _ => True) ws ∧ NW U ∧ va_AO RX2 U
def nE (D : va_G) (A : Nat → Prop) (W1 : nU → va_W) (T1 : nU → List (ClassId × FieldType)) : nU → State → Prop := fun u t => va_P D vwCl (W1 u) t.heap ∧ va_K D vwCl (T1 u) t ∧ va_D A (W1 u)
abbrev xN (f k c s : Nat) : Room := { frames := f, cells := c, slots := s, locals := k }
theorem n_blind {D : va_G} {sz : Nat} {ws : va_W} {as : List Value} : FrameBlind (va_Pc as (nB D sz ws)) := fun a U g mk q => by
  obtain ⟨q0, q1, qP, qK, qD, qN, qA⟩ := q
  exact ⟨q0, q1, qP, va_K.moved (u := U) (U := U.calling g mk a) (Vm.Alike.refl U.vm) qK, qD, NW.same (u := U) (U := U.calling g mk a) rfl qN, va_AO.moved (u := U) (U := U.calling g mk a) (Vm.Alike.refl U.vm) qA⟩
theorem n_cI {D : va_G} {cl : List vw_C} {t1 t2 : List (ClassId × FieldType)} {U : State} {c1 c2 : ClassId} (h1 : va_K D cl t1 U) (h2 : va_K D cl t2 U) (i j : Nat) (e1 : t1[i]? = some (c1, .int)) (e2 : t2[j]? = some (c2, .int)) : c1 = c2 := by
  have a1 := (h1.2 i _ e1).2
  have a2 := (h2.2 j _ e2).2
  exact Option.some.inj ((show U.vm.findClass _ = some c1 from a1).symm.trans a2)
theorem n_cL {D : va_G} {cl : List vw_C} {t1 t2 : List (ClassId × FieldType)} {U : State} {c1 c2 : ClassId} (h1 : va_K D cl t1 U) (h2 : va_K D cl t2 U) (i j : Nat) (e1 : t1[i]? = some (c1, .object RX2)) (e2 : t2[j]? = some (c2, .object RX2)) : c1 = c2 := by
  obtain ⟨_, _, _, _, _, a1⟩ := (h1.2 i _ e1).2
  obtain ⟨_, _, _, _, _, a2⟩ := (h2.2 j _ e2).2
  exact Option.some.inj (a1.symm.trans a2)
/-- an array of references by its first four places -/
theorem n_larr {D : va_G} {cl : List vw_C} {ws : va_W} {H : Heap} {a : Nat} {cA : ClassId} {f g : Nat → Option Nat} (k : Nat) (he : ws[k]? = some (a, .inl (cA, 4, .inr (.inr (.inr (.inr f)))))) (hfg : ∀ j, j < 4 → f j = g j) (h : va_P D cl ws H) : va_P D cl (ws.set k (a, .inl (cA, 4, .inr (.inr (.inr (.inr g)))))) H := by
  intro i q hq
  by_cases e : k = i
  · subst e
    rw [List.getElem?_set_self (List.getElem?_eq_some_iff.mp he).1] at hq
    cases hq
    have h1 := h k _ he
    have e2 : vp_cell cA (4, .inr (.inr (.inr (.inr f)))) = vp_cell cA (4, .inr (.inr (.inr (.inr g)))) := by
      rw [vp_cell_q, vp_cell_q]
      unfold arrV
      congr 1
      congr 1
      funext j
      exact congrArg va_rf (hfg j.val j.isLt)
    show H[a]? = some (vp_cell cA (4, .inr (.inr (.inr (.inr g)))))
    rw [← e2]
    exact h1
  · rw [List.getElem?_set_ne e] at hq
    exact h i q hq
section NX
variable {p : Program} {l : Launch} {e : Env} {R : Room} {s : State} {m : MethodId} {args : Array Value} {below : List Frame} {meth : Method} {c : Code} {H H0 : Heap} {locs : List Loc} {cells slots : Nat} {Q : State → Prop} {cc : ByteArray} {pc : Nat} {ls : Array Slot} {rest : List Value}
theorem n_ps {D : va_G} {ty : List (ClassId × FieldType)} {ws wc : va_W} {A : Nat → Prop} {As : List Value} (hN : NW s) (hAO : va_AO RX2 s) (hK : va_K D vwCl ty s) (hP : va_P D vwCl ws H) (hD : va_D A ws) (is : List Nat) (hC : is.map (fun i => ws[i]?) = wc.map some) (hn : va_nd is = true) : PreS s H (va_Pc As (nB D H.size wc)) As :=
  ⟨n_blind, fun U hU hW => ⟨rfl, by rw [hU], by rw [hU]; exact x_cut is hP hC, (va_K.moved hW.alike hK).sub [] rfl, (hD.sub is hn hC).weaken (fun _ _ _ _ => trivial), hN.warm hW, va_AO.moved hW.alike hAO⟩⟩
theorem n_cv {mc ms : Nat} {D : va_G} {ws wc wr : va_W} {W1 : nU → va_W} {T1 : nU → List (ClassId × FieldType)} {A : Nat → Prop} {st : List Value} {as : Array Value} (is isR : List Nat)
    (hr : va_Run p l e R s m args below meth c H locs cells slots mc ms (F0 m pc ls st) rest (va_Qv (fun (_ : nU) => True) (nE D (va_A wc H.size) W1 T1) (va_A wc H.size) as) (va_A wc H.size))
    (hP : va_P D vwCl ws H) (hD : va_D A ws) (hS : va_S A H0 H locs) (hA : ∀ q, H0.size ≤ q → A q) (hC : is.map (fun i => ws[i]?) = wc.map some) (hR : isR.map (fun i => ws[i]?) = wr.map some) (hn : va_nd isR = true) (hdis : ∀ i ∈ isR, i ∉ is)
    (kk : ∀ (u : nU) (H1 : Heap) (locs1 : List Loc), va_P D vwCl (wr ++ W1 u) H1 → va_D A (wr ++ W1 u) → va_K D vwCl (T1 u) s → va_S A H0 H1 locs1 → W p l e R s m args below meth c H1 locs1 (cells + mc) (slots + ms) Q (F0 m (pc + 3) ls rest)) : W p l e R s m args below meth c H locs cells slots Q (F0 m pc ls st) := by
  have hF := va_free hD hS hA is hC
  refine va_callv hr hS (fun q _ h => hF q h) hF (fun u t H1 locs1 ht hvm hw hB hz1 hk1 hS => ?_)
  obtain ⟨hP1, hK1, hD1⟩ := hB
  rw [ht] at hP1
  obtain ⟨g1, g2⟩ := va_join hP hD is isR hC hR hn hdis hk1 hF hP1 hD1
  exact kk u H1 locs1 g1 g2 (va_K.moved hvm.symm hK1) hS
theorem n_in {y : MethodName} {wl wl' : List Cond} {maxL mc ms : Nat} {ret : Option FieldType} {rm : Room} {D : va_G} {as : List Value} {ws : va_W} {Qc : Array Value → State → Outcome → State → Prop} {sz : Nat}
    (hy : plainName y.cls = true) (hw : wl = Cond.code y cc maxL ret :: wl') (hlen : (lg_sl as).length ≤ maxL)
    (k : ∀ (p : Program) (e : Env) (s : State) (m : MethodId) (below : List Frame) (meth : Method) (c : Code) (A : Nat → Prop) (ls : Array Slot), CallFix p m c cc maxL s as.toArray wl y.cls → meth.sig.returnType = ret → meth.locks = false → meth.name = y.name → NW s → va_AO RX2 s → va_K D vwCl [] s → va_P D vwCl ws s.heap → A = va_A ws sz → va_D A ws → (∀ q, s.heap.size ≤ q → A q) → va_S A s.heap s.heap [] → lv_has ls maxL (lv_args 0 as) →
      W p l e rm s m as.toArray below meth c s.heap [] 0 0 (MQ below Qc as.toArray s mc ms A) (F0 m 0 ls [])) : Met l y wl rm (va_Pc as (nB D sz ws)) Qc mc ms (va_A ws sz) := by
  refine Met.ofW (cc := cc) (maxL := maxL) (ret := ret) hy hw ?_
  intro p e s m args below meth c s₁ B hml hv
  obtain ⟨rfl, hsz, hP, hK, hD0, hN, hAO⟩ := hv
  have hts := atoms_spec (ws := wl) B.pre
  have hown : s.vm.findClass y.cls = some m.cls := findClass_of_methodNamed B.named
  have hin : meth.name = y.name := (name_of_methodNamed B.named B.method).1
  subst hsz
  have hD := hD0.self (sz := s.heap.size)
  rw [lg_entry_eq]
  exact k p e s m below meth c _ _ ⟨B.exec, B.bytes, hml, hown, hts⟩ B.returns B.notSynchronized hin hN hAO hK hP rfl hD (fun q h => Or.inr h) va_S.rf (lv_entry as hlen)
end NX
