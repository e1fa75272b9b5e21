def nF : List (String × Nat × String × String × String × String) := [("OverTheShoulder$Search", 114, "OverTheShoulder$Sheet", "lines", "I", "OverTheShoulder"), ("OverTheShoulder", 260, "OverTheShoulder$Sheet", "lines", "I", "OverTheShoulder"), ("OverTheShoulder", 112, "OverTheShoulder$Holder", "kind", "I", "OverTheShoulder"), ("OverTheShoulder$Letters", 61, "OverTheShoulder$Holder", "kind", "I", "OverTheShoulder"), ("OverTheShoulder", 115, "OverTheShoulder$Holder", "figure", "I", "OverTheShoulder"), ("OverTheShoulder$Letters", 66, "OverTheShoulder$Holder", "figure", "I", "OverTheShoulder"), ("OverTheShoulder", 118, "OverTheShoulder$Holder", "baseSeconds", "I", "OverTheShoulder"), ("OverTheShoulder$Letters", 72, "OverTheShoulder$Holder", "baseSeconds", "I", "OverTheShoulder"), ("OverTheShoulder", 121, "OverTheShoulder$Holder", "tilted", "I", "OverTheShoulder"), ("OverTheShoulder$Letters", 78, "OverTheShoulder$Holder", "tilted", "I", "OverTheShoulder"), ("OverTheShoulder", 282, "OverTheShoulder$Holder", "sooner", "I", "OverTheShoulder"), ("OverTheShoulder$Search", 126, "OverTheShoulder$Looker", "place", "I", "OverTheShoulder"), ("OverTheShoulder", 128, "OverTheShoulder$Looker", "place", "I", "OverTheShoulder"), ("OverTheShoulder$Search", 117, "OverTheShoulder$Looker", "pace", "I", "OverTheShoulder"), ("OverTheShoulder", 131, "OverTheShoulder$Looker", "pace", "I", "OverTheShoulder"), ("OverTheShoulder$Search", 87, "OverTheShoulder$Looker", "nerve", "I", "OverTheShoulder"), ("OverTheShoulder", 134, "OverTheShoulder$Looker", "nerve", "I", "OverTheShoulder"), ("OverTheShoulder$Search", 88, "OverTheShoulder$Looker", "second", "I", "OverTheShoulder"), ("OverTheShoulder", 137, "OverTheShoulder$Looker", "second", "I", "OverTheShoulder"), ("OverTheShoulder$Search", 91, "OverTheShoulder$Looker", "on", "I", "OverTheShoulder"), ("OverTheShoulder", 140, "OverTheShoulder$Looker", "on", "I", "OverTheShoulder"), ("OverTheShoulder$Search", 66, "OverTheShoulder$Looker", "noticed", "I", "OverTheShoulder"), ("OverTheShoulder", 143, "OverTheShoulder$Looker", "noticed", "I", "OverTheShoulder"), ("OverTheShoulder$Search", 94, "OverTheShoulder$Looker", "readLines", "I", "OverTheShoulder"), ("OverTheShoulder", 146, "OverTheShoulder$Looker", "readLines", "I", "OverTheShoulder"), ("OverTheShoulder$Search", 106, "OverTheShoulder$Looker", "cutOff", "Z", "OverTheShoulder"), ("OverTheShoulder$Scene", 44, "OverTheShoulder$Looker", "cutOff", "Z", "OverTheShoulder"), ("OverTheShoulder", 149, "OverTheShoulder$Looker", "cutOff", "Z", "OverTheShoulder"), ("OverTheShoulder", 81, "OverTheShoulder$Scene", "sheet", "LOverTheShoulder$Sheet;", "OverTheShoulder"), ("OverTheShoulder$Letters", 42, "OverTheShoulder$Scene", "sheet", "LOverTheShoulder$Sheet;", "OverTheShoulder"), ("OverTheShoulder", 109, "OverTheShoulder$Scene", "held", "LOverTheShoulder$Holder;", "OverTheShoulder"), ("OverTheShoulder$Letters", 57, "OverTheShoulder$Scene", "held", "LOverTheShoulder$Holder;", "OverTheShoulder"), ("OverTheShoulder", 177, "OverTheShoulder$Scene", "lookers", "I", "OverTheShoulder"), ("OverTheShoulder", 74, "OverTheShoulder$Letters", "told", "I", "OverTheShoulder"), ("OverTheShoulder", 276, "OverTheShoulder$Search", "bestLength", "I", "OverTheShoulder")]
def nM : List (String × Nat × MethodName × String) := [("OverTheShoulder$Scene", 11, ⟨"OverTheShoulder$Sheet", "<init>", "()V"⟩, "OverTheShoulder"), ("OverTheShoulder$Scene", 20, ⟨"OverTheShoulder$Holder", "<init>", "()V"⟩, "OverTheShoulder"), ("OverTheShoulder$Scene", 35, ⟨"OverTheShoulder$Looker", "<init>", "()V"⟩, "OverTheShoulder"), ("OverTheShoulder", 21, ⟨"OverTheShoulder$Letters", "<init>", "()V"⟩, "OverTheShoulder"), ("OverTheShoulder", 28, ⟨"OverTheShoulder$Search", "<init>", "()V"⟩, "OverTheShoulder"), ("OverTheShoulder", 35, ⟨"OverTheShoulder$Holder", "<init>", "()V"⟩, "OverTheShoulder"), ("OverTheShoulder", 42, ⟨"OverTheShoulder$Looker", "<init>", "()V"⟩, "OverTheShoulder"), ("OverTheShoulder$Letters", 23, ⟨"OverTheShoulder", "put", "([III)V"⟩, "OverTheShoulder"), ("OverTheShoulder$Letters", 95, ⟨"OverTheShoulder", "at", "([II)I"⟩, "OverTheShoulder"), ("OverTheShoulder$Sheet", 28, ⟨"OverTheShoulder", "put", "([III)V"⟩, "OverTheShoulder"), ("OverTheShoulder$Sheet", 45, ⟨"OverTheShoulder", "at", "([II)I"⟩, "OverTheShoulder"), ("OverTheShoulder$Search", 83, ⟨"OverTheShoulder", "put", "([III)V"⟩, "OverTheShoulder"), ("OverTheShoulder$Search", 102, ⟨"OverTheShoulder", "at", "([II)I"⟩, "OverTheShoulder")]
def NW (U : State) : Prop := (∀ q ∈ nF, va_Nw (.fieldLinkNest q.1 q.2.1 q.2.2.1 q.2.2.2.1 q.2.2.2.2.1 q.2.2.2.2.2) U) ∧ (∀ q ∈ nM, va_Nw (.methodLinkNest q.1 q.2.1 q.2.2.1 q.2.2.2) U)
theorem NW.warm {s U : State} (hW : s.WarmedH U.vm) (h : NW s) : NW U := ⟨fun q hq => va_Nw.warmF hW (h.1 q hq), fun q hq => va_Nw.warmM hW (h.2 q hq)⟩
theorem NW.same {u U : State} (hv : u.vm = U.vm) (h : NW u) : NW U := ⟨fun q hq => va_Nw.same rfl hv (h.1 q hq), fun q hq => va_Nw.same rfl hv (h.2 q hq)⟩
abbrev wm (y : MethodName) (c : ByteArray) (n : Nat) (r : Option FieldType) : List Cond := .code y c n r :: wsL_law
theorem w_in {y : MethodName} {c : ByteArray} {n : Nat} {r : Option FieldType} {w : Cond} (h : w ∈ wsL_law) : w ∈ wm y c n r := List.mem_cons_of_mem _ h
theorem gg_ok {big : List Cond} (hb : ∀ w ∈ wsL_law, w ∈ big) {y : MethodName} {c : ByteArray} {n : Nat} {r : Option FieldType} (h : Cond.code y c n r ∈ wsL_law) : GoodIn big (wm y c n r) := fun w hw => by
  rcases List.mem_cons.mp hw with rfl | hw
  · exact ⟨hb _ h, wsL_good h⟩
  · exact ⟨hb _ hw, wsL_good hw⟩
theorem g1_ok {big : List Cond} (hb : ∀ w ∈ wsL_law, w ∈ big) {w : Cond} {ws : List Cond} (h : w ∈ wsL_law) (hg : GoodIn big ws) : GoodIn big (w :: ws) := fun v hv => by
  rcases List.mem_cons.mp hv with rfl | hv
  · exact ⟨hb _ h, wsL_good h⟩
  · exact hg v hv
theorem gv_ok {big : List Cond} (hb : ∀ w ∈ wsL_law, w ∈ big) {own C : String} {idx : Nat} {y : MethodName} {c : ByteArray} {n : Nat} {r : Option FieldType} (h0 : Cond.code y c n r ∈ wsL_law) (h1 : Cond.methodLink own idx y ∈ wsL_law) (h2 : Cond.instanceMethod y ∈ wsL_law) (h3 : Cond.selects C y y ∈ wsL_law) (h4 : Cond.initialized C ∈ wsL_law) : GoodIn big (wsV own idx C y (wm y c n r)) :=
  g1_ok hb h1 (g1_ok hb h2 (g1_ok hb h3 (g1_ok hb h4 (gg_ok hb h0))))
theorem gs_ok {big : List Cond} (hb : ∀ w ∈ wsL_law, w ∈ big) {own : String} {idx : Nat} {y : MethodName} {c : ByteArray} {n : Nat} {r : Option FieldType} (h0 : Cond.code y c n r ∈ wsL_law) (h1 : Cond.methodLink own idx y ∈ wsL_law) (h2 : Cond.static y ∈ wsL_law) (h3 : Cond.initialized y.cls ∈ wsL_law) : GoodIn big (va_wsS own idx y (wm y c n r)) :=
  g1_ok hb h1 (g1_ok hb h2 (g1_ok hb h3 (gg_ok hb h0)))
theorem x_ne {x y : Int32} (h : ¬ x = y) : ¬ x.toInt = y.toInt := fun e => h (Int32.toInt_inj.mp e)
/-- a world with some cells put anew, by their places -/
def x_rep (ws : va_W) : List Nat → va_W → va_W
  | i :: is, w :: w1 => x_rep (ws.set i w) is w1
  | _, _ => ws
theorem x_rep_get : ∀ (is : List Nat) (ws w1 : va_W), is.length = w1.length → ∀ (k : Nat) (q : Nat × va_E), (x_rep ws is w1)[k]? = some q → q ∈ w1 ∨ (k ∉ is ∧ ws[k]? = some q)
  | [], ws, w1, _, k, q, h => Or.inr ⟨List.not_mem_nil, by cases w1 <;> exact h⟩
  | i :: is, ws, [], hl, k, q, h => by cases hl
  | i :: is, ws, w :: w1, hl, k, q, h => by
    have h0 : (x_rep (ws.set i w) is w1)[k]? = some q := h
    rcases x_rep_get is (ws.set i w) w1 (Nat.succ.inj hl) k q h0 with h1 | ⟨h1, h2⟩
    · exact Or.inl (List.mem_cons_of_mem _ h1)
    · by_cases hk : k = i
      · subst hk
        have hlt : k < ws.length := by
          have := (List.getElem?_eq_some_iff.mp h2).1
          simpa using this
        rw [List.getElem?_set_self hlt] at h2
        cases h2
        exact Or.inl List.mem_cons_self
      · rw [List.getElem?_set_ne (Ne.symm hk)] at h2
        exact Or.inr ⟨fun hm => (List.mem_cons.mp hm).elim hk h1, h2⟩
theorem x_set_fst {ws : va_W} {i : Nat} {w : Nat × va_E} (h : (ws.map Prod.fst)[i]? = some w.1) : (ws.set i w).map Prod.fst = ws.map Prod.fst := by
  rw [List.map_set]
  apply List.ext_getElem?
  intro k
  by_cases hk : i = k
  · subst hk
    rw [List.getElem?_set_self (List.getElem?_eq_some_iff.mp h).1, h]
  · rw [List.getElem?_set_ne hk]
theorem x_rep_fst : ∀ (is : List Nat) (ws w1 : va_W), is.map (fun i => (ws.map Prod.fst)[i]?) = w1.map (fun w => some w.1) → (x_rep ws is w1).map Prod.fst = ws.map Prod.fst
  | [], ws, [], _ => rfl
  | [], ws, _ :: _, h => by cases h
  | _ :: _, ws, [], h => by cases h
  | i :: is, ws, w :: w1, h => by
    have h1 : (ws.map Prod.fst)[i]? = some w.1 := (List.cons.inj h).1
    have h2 := (List.cons.inj h).2
    have h3 : is.map (fun j => ((ws.set i w).map Prod.fst)[j]?) = w1.map (fun w => some w.1) := by rw [x_set_fst h1]; exact h2
    exact (x_rep_fst is (ws.set i w) w1 h3).trans (x_set_fst h1)
theorem x_D_of {A : Nat → Prop} {ws ws' : va_W} (h : ws'.map Prod.fst = ws.map Prod.fst) (hD : va_D A ws) : va_D A ws' := by
  have key : ∀ (k : Nat) (q : Nat × va_E), ws'[k]? = some q → ∃ q0, ws[k]? = some q0 ∧ q0.1 = q.1 := by
    intro k q hk
    have h1 : (ws'.map Prod.fst)[k]? = some q.1 := by rw [List.getElem?_map, hk]; rfl
    rw [h, List.getElem?_map] at h1
    cases h2 : ws[k]? with
    | none => rw [h2] at h1; cases h1
    | some q0 => rw [h2] at h1; exact ⟨q0, rfl, Option.some.inj h1⟩
  refine ⟨fun i j x y hi hj hxy => ?_, fun k q hk => ?_⟩
  · obtain ⟨x0, h1, h2⟩ := key i x hi
    obtain ⟨y0, h3, h4⟩ := key j y hj
    exact hD.1 i j x0 y0 h1 h3 (h2.trans (hxy.trans h4.symm))
  · obtain ⟨q0, h1, h2⟩ := key k q hk
    rw [← h2]
    exact hD.2 k q0 h1
theorem x_at {ws wc : va_W} {is : List Nat} (hC : is.map (fun i => ws[i]?) = wc.map some) {k : Nat} {q : Nat × va_E} (hq : wc[k]? = some q) : ∃ i, is[k]? = some i ∧ ws[i]? = some q := by
  have h1 : (is.map (fun i => ws[i]?))[k]? = some (some q) := by rw [hC, List.getElem?_map, hq]; rfl
  rw [List.getElem?_map] at h1
  cases hi : is[k]? with
  | none => rw [hi] at h1; cases h1
  | some i => rw [hi] at h1; exact ⟨i, rfl, Option.some.inj h1⟩
theorem x_off {A0 : Nat → Prop} {D : va_G} {cl : List vw_C} {ws wc : va_W} {H : Heap} {is : List Nat} (hP : va_P D cl ws H) (hD : va_D A0 ws) (hC : is.map (fun i => ws[i]?) = wc.map some) {k : Nat} {q : Nat × va_E} (hk : ws[k]? = some q) (hn : k ∉ is) : q.1 < H.size ∧ ¬ va_A wc H.size q.1 := by
  have hl := (hP k q hk).lt
  refine ⟨hl, fun h => ?_⟩
  rcases h with ⟨k2, e, h⟩ | h
  · obtain ⟨j, h3, h4⟩ := x_at hC h
    have hij := hD.1 k j q (q.1, e) hk h4 rfl
    subst hij
    exact hn (List.mem_of_getElem? h3)
  · omega
theorem x_len {ws wc : va_W} {is : List Nat} (hC : is.map (fun i => ws[i]?) = wc.map some) : is.length = wc.length := by
  have := congrArg List.length hC
  simpa using this
theorem x_keep {A0 : Nat → Prop} {D : va_G} {cl : List vw_C} {ws wc w1 : va_W} {H H1 : Heap} (is : List Nat) (hP : va_P D cl ws H) (hD : va_D A0 ws) (hC : is.map (fun i => ws[i]?) = wc.map some) (ha : is.map (fun i => (ws.map Prod.fst)[i]?) = w1.map (fun w => some w.1)) (hk : ∀ q : Nat, q < H.size → ¬ va_A wc H.size q → H1[q]? = H[q]?) (hP1 : va_P D cl w1 H1) : va_P D cl (x_rep ws is w1) H1 ∧ va_D A0 (x_rep ws is w1) := by
  refine ⟨fun k q h => ?_, x_D_of (x_rep_fst is ws w1 ha) hD⟩
  have hl : is.length = w1.length := by have := congrArg List.length ha; simpa using this
  rcases x_rep_get is ws w1 hl k q h with h1 | ⟨h1, h2⟩
  · obtain ⟨j, hj⟩ := List.getElem?_of_mem h1
    exact hP1 j q hj
  · obtain ⟨g1, g2⟩ := x_off hP hD hC h2 h1
    exact (hP k q h2).kept (hk q.1 g1 g2)
theorem x_same {A0 : Nat → Prop} {D : va_G} {cl : List vw_C} {ws wc : va_W} {H H1 : Heap} (is : List Nat) (hP : va_P D cl ws H) (hD : va_D A0 ws) (hC : is.map (fun i => ws[i]?) = wc.map some) (hk : ∀ q : Nat, q < H.size → ¬ va_A wc H.size q → H1[q]? = H[q]?) (hP1 : va_P D cl wc H1) : va_P D cl ws H1 := by
  intro k q h
  by_cases hn : k ∈ is
  · obtain ⟨j, hj⟩ := List.getElem?_of_mem hn
    have h1 : (is.map (fun i => ws[i]?))[j]? = some (some q) := by rw [List.getElem?_map, hj]; exact congrArg some h
    rw [hC, List.getElem?_map] at h1
    cases hw : wc[j]? with
    | none => rw [hw] at h1; cases h1
    | some q' => rw [hw] at h1; cases h1; exact hP1 j _ hw
  · obtain ⟨g1, g2⟩ := x_off hP hD hC h hn
    exact (hP k q h).kept (hk q.1 g1 g2)
theorem x_cut {D : va_G} {cl : List vw_C} {ws wc : va_W} {H : Heap} (is : List Nat) (hP : va_P D cl ws H) (hC : is.map (fun i => ws[i]?) = wc.map some) : va_P D cl wc H := by
  intro k q h
  obtain ⟨i, -, h2⟩ := x_at hC h
  exact hP i q h2
/-- what a method finds: the size, its cells, the classes, the cells apart, the words of the nest -/
def xB (D : va_G) (ty : List (ClassId × FieldType)) (sz : Nat) (ws : va_W) : State → Prop := fun U => U.heap.size = sz ∧ va_P D vwCl ws U.heap ∧ va_K D vwCl ty U ∧ va_D (fun _ => True) ws ∧ NW U
/-- what a method leaves -/
def xE (D : va_G) (ws' : va_W) : Unit → State → Prop := fun _ t => va_P D vwCl ws' t.heap
abbrev xR (f k : Nat) : Room := { frames := f, cells := 0, slots := 0, locals := k }
abbrev Xi (l : Launch) (y : MethodName) (wl : List Cond) (rm : Room) (D : va_G) (ty : List (ClassId × FieldType)) (as : List Value) (ws ws' : va_W) (r : Int32) : Prop := ∀ sz : Nat, Met l y wl rm (va_Pc as (xB D ty sz ws)) (va_Qi (fun (r' : Int32) (_ : Unit) => r' = r) (xE D ws') (va_A ws sz)) 0 0 (va_A ws sz)
abbrev Xl (l : Launch) (y : MethodName) (wl : List Cond) (rm : Room) (D : va_G) (ty : List (ClassId × FieldType)) (as : List Value) (ws ws' : va_W) (r : Int64) : Prop := ∀ sz : Nat, Met l y wl rm (va_Pc as (xB D ty sz ws)) (va_Ql (fun (r' : Int64) (_ : Unit) => r' = r) (xE D ws') (va_A ws sz)) 0 0 (va_A ws sz)
abbrev Xq (l : Launch) (y : MethodName) (wl : List Cond) (rm : Room) (D : va_G) (ty : List (ClassId × FieldType)) (as : List Value) (ws ws' : va_W) (r : Option Nat) : Prop := ∀ sz : Nat, Met l y wl rm (va_Pc as (xB D ty sz ws)) (va_Qq (fun (r' : Option Nat) (_ : Unit) => r' = r) (xE D ws') (va_A ws sz)) 0 0 (va_A ws sz)
abbrev Xv (l : Launch) (y : MethodName) (wl : List Cond) (rm : Room) (D : va_G) (ty : List (ClassId × FieldType)) (as : List Value) (ws ws' : va_W) : Prop := ∀ sz : Nat, Met l y wl rm (va_Pc as (xB D ty sz ws)) (va_Qv (fun (_ : Unit) => True) (xE D ws') (va_A ws sz)) 0 0 (va_A ws sz)
theorem x_blind {D : va_G} {ty : List (ClassId × FieldType)} {sz : Nat} {ws : va_W} {as : List Value} : FrameBlind (va_Pc as (xB D ty sz ws)) := fun a U g mk q => by
  obtain ⟨q0, q1, qP, qK, qD, qN⟩ := q
  exact ⟨q0, q1, qP, va_K.moved (u := U) (U := U.calling g mk a) (Vm.Alike.refl U.vm) qK, qD, NW.same (u := U) (U := U.calling g mk a) rfl qN⟩
theorem fb_rng0 (x : Int32) : -2147483648 ≤ x.toInt ∧ x.toInt < 2147483648 := ⟨x.le_toInt, x.toInt_lt⟩
theorem fb_bmod0 {z : Int} (h1 : -2147483648 ≤ z) (h2 : z < 2147483648) : z.bmod (2 ^ 32) = z := Int.bmod_eq_of_le (by omega) (by omega)
section XL
variable {p : Program} {l : Launch} {e : Env} {R : Room} {s : State} {m : MethodId} {args : Array Value} {below : List Frame} {meth : Method} {c : Code} {H H0 : Heap} {locs : List Loc} {cells slots : Nat} {Q : State → Prop} {cc : ByteArray} {pc : Nat} {ls : Array Slot} {rest : List Value}
theorem x_in {y : MethodName} {wl wl' : List Cond} {maxL : Nat} {ret : Option FieldType} {rm : Room} {D : va_G} {ty : List (ClassId × FieldType)} {as : List Value} {ws : va_W} {Qc : Array Value → State → Outcome → State → Prop} {sz : Nat}
    (hy : plainName y.cls = true) (hw : wl = Cond.code y cc maxL ret :: wl') (hlen : (lg_sl as).length ≤ maxL)
    (k : ∀ (p : Program) (e : Env) (s : State) (m : MethodId) (below : List Frame) (meth : Method) (c : Code) (A : Nat → Prop) (ls : Array Slot), CallFix p m c cc maxL s as.toArray wl y.cls → meth.sig.returnType = ret → meth.locks = false → NW s → va_K D vwCl ty s → va_P D vwCl ws s.heap → A = va_A ws sz → va_D A ws → (∀ q, s.heap.size ≤ q → A q) → va_S A s.heap s.heap [] → lv_has ls maxL (lv_args 0 as) →
      W p l e rm s m as.toArray below meth c s.heap [] 0 0 (MQ below Qc as.toArray s 0 0 A) (F0 m 0 ls [])) : Met l y wl rm (va_Pc as (xB D ty sz ws)) Qc 0 0 (va_A ws sz) := by
  refine Met.ofW (cc := cc) (maxL := maxL) (ret := ret) hy hw ?_
  intro p e s m args below meth c s₁ B hml hv
  obtain ⟨rfl, hsz, hP, hK, hD0, hN⟩ := hv
  have hts := atoms_spec (ws := wl) B.pre
  have hown : s.vm.findClass y.cls = some m.cls := findClass_of_methodNamed B.named
  subst hsz
  have hD := hD0.self (sz := s.heap.size)
  rw [lg_entry_eq]
  exact k p e s m below meth c _ _ ⟨B.exec, B.bytes, hml, hown, hts⟩ B.returns B.notSynchronized hN hK hP rfl hD (fun q h => Or.inr h) va_S.rf (lv_entry as hlen)
theorem xi_ret {D : va_G} {A : Nat → Prop} {wz ws' : va_W} {r v : Int32} (hx : p.tables.exec = Jvm.exec) (hb : c.code = cc) (hr : meth.sig.returnType = some .int) (hlocks : meth.locks = false) (hP : va_P D vwCl wz H) (hS : va_S A s.heap H locs) (hw : wz = ws') (hv : v = r) (hd : decode cc pc = .ok (.ireturn, 1)) :
    W p l e R s m args below meth c H locs cells slots (MQ below (va_Qi (fun (r' : Int32) (_ : Unit) => r' = r) (xE D ws') A) args s cells slots A) (F0 m pc ls [.int v]) := by
  subst hw
  exact W.iret (v := v) hx hb hr (fun t ht hW => ⟨⟨v, (), rfl, hv, by show va_P D vwCl wz t.heap; rw [ht]; exact hP⟩, hS.F ht⟩) hS.2.2 hd hlocks
theorem xz_ret {D : va_G} {A : Nat → Prop} {wz ws' : va_W} {r v : Int32} (hx : p.tables.exec = Jvm.exec) (hb : c.code = cc) (hr : meth.sig.returnType = some .boolean) (hlocks : meth.locks = false) (hP : va_P D vwCl wz H) (hS : va_S A s.heap H locs) (hw : wz = ws') (hv : v = r) (hd : decode cc pc = .ok (.ireturn, 1)) (hz : narrow .boolean (.int v) = .int v) :
    W p l e R s m args below meth c H locs cells slots (MQ below (va_Qi (fun (r' : Int32) (_ : Unit) => r' = r) (xE D ws') A) args s cells slots A) (F0 m pc ls [.int v]) := by
  subst hw
  exact W.zret (v := v) hx hb hr hz (fun t ht hW => ⟨⟨v, (), rfl, hv, by show va_P D vwCl wz t.heap; rw [ht]; exact hP⟩, hS.F ht⟩) hS.2.2 hd hlocks
theorem xl_ret {D : va_G} {A : Nat → Prop} {wz ws' : va_W} {r v : Int64} (hx : p.tables.exec = Jvm.exec) (hb : c.code = cc) (hr : meth.sig.returnType = some .long) (hlocks : meth.locks = false) (hP : va_P D vwCl wz H) (hS : va_S A s.heap H locs) (hw : wz = ws') (hv : v = r) (hd : decode cc pc = .ok (.lreturn, 1)) :
    W p l e R s m args below meth c H locs cells slots (MQ below (va_Ql (fun (r' : Int64) (_ : Unit) => r' = r) (xE D ws') A) args s cells slots A) (F0 m pc ls [.long v]) := by
  subst hw
  exact W.lret (v := v) hx hb hr (fun t ht hW => ⟨⟨v, (), rfl, hv, by show va_P D vwCl wz t.heap; rw [ht]; exact hP⟩, hS.F ht⟩) hS.2.2 hd hlocks
theorem xv_ret {D : va_G} {A : Nat → Prop} {wz ws' : va_W} (hx : p.tables.exec = Jvm.exec) (hb : c.code = cc) (hr : meth.sig.returnType = none) (hlocks : meth.locks = false) (hP : va_P D vwCl wz H) (hS : va_S A s.heap H locs) (hw : wz = ws') (hd : decode cc pc = .ok (.return_, 1)) :
    W p l e R s m args below meth c H locs cells slots (MQ below (va_Qv (fun (_ : Unit) => True) (xE D ws') A) args s cells slots A) (F0 m pc ls []) := by
  subst hw
  exact W.vret hx hb hr (fun t ht hW => ⟨⟨(), rfl, trivial, by show va_P D vwCl wz t.heap; rw [ht]; exact hP⟩, hS.F ht⟩) hS.2.2 hd hlocks
theorem xq_ret {D : va_G} {A : Nat → Prop} {wz ws' : va_W} {r v : Option Nat} {n : String} (hx : p.tables.exec = Jvm.exec) (hb : c.code = cc) (hr : meth.sig.returnType = some (.object n)) (hlocks : meth.locks = false) (hP : va_P D vwCl wz H) (hS : va_S A s.heap H locs) (hw : wz = ws') (hv : v = r) (hd : decode cc pc = .ok (.areturn, 1)) :
    W p l e R s m args below meth c H locs cells slots (MQ below (va_Qq (fun (r' : Option Nat) (_ : Unit) => r' = r) (xE D ws') A) args s cells slots A) (F0 m pc ls [va_rf v]) := by
  subst hw
  exact W.aret (v := va_rf v) hx hb hr (Or.inl ⟨n, rfl⟩) (by cases v with | none => exact Or.inl rfl | some a => exact Or.inr ⟨a, rfl⟩) (fun t ht hW => ⟨⟨v, (), rfl, hv, by show va_P D vwCl wz t.heap; rw [ht]; exact hP⟩, hS.F ht⟩) hS.2.2 hd hlocks
/-- a call's premises: of an instance's method -/
theorem x_pv {D : va_G} {ty : List (ClassId × FieldType)} {ws wc : va_W} {A : Nat → Prop} {b ci q0 : Nat} {C : vw_C} {fs As : List Value} (hN : NW s) (hK : va_K D vwCl ty s) (hP : va_P D vwCl ws H) (hD : va_D A ws) (is : List Nat) (hC : is.map (fun i => ws[i]?) = wc.map some) (hn : va_nd is = true) (hc : vwCl[ci]? = some C) (he : ws[q0]? = some (b, .inr (ci, fs))) : PreV s H C.1 b (va_Pc (.ref b :: As) (xB D ty H.size wc)) As :=
  ⟨x_blind, va_recv hK hP hc he, fun U hU hW => ⟨rfl, by rw [hU], by rw [hU]; exact x_cut is hP hC, va_K.moved hW.alike hK, (hD.sub is hn hC).weaken (fun _ _ _ _ => trivial), hN.warm hW⟩⟩
/-- of a static one -/
theorem x_ps {D : va_G} {ty : List (ClassId × FieldType)} {ws wc : va_W} {A : Nat → Prop} {As : List Value} (hN : NW s) (hK : va_K D vwCl ty s) (hP : va_P D vwCl ws H) (hD : va_D A ws) (is : List Nat) (hC : is.map (fun i => ws[i]?) = wc.map some) (hn : va_nd is = true) : PreS s H (va_Pc As (xB D ty H.size wc)) As :=
  ⟨x_blind, fun U hU hW => ⟨rfl, by rw [hU], by rw [hU]; exact x_cut is hP hC, va_K.moved hW.alike hK, (hD.sub is hn hC).weaken (fun _ _ _ _ => trivial), hN.warm hW⟩⟩
theorem x_ci {D : va_G} {ws wc : va_W} {A : Nat → Prop} {st : List Value} {as : Array Value} {r0 : Int32} (is : List Nat)
    (hr : va_Run p l e R s m args below meth c H locs cells slots 0 0 (F0 m pc ls st) rest (va_Qi (fun (r' : Int32) (_ : Unit) => r' = r0) (xE D wc) (va_A wc H.size) as) (va_A wc H.size))
    (hP : va_P D vwCl ws H) (hD : va_D A ws) (hS : va_S A H0 H locs) (hA : ∀ q, H0.size ≤ q → A q) (hC : is.map (fun i => ws[i]?) = wc.map some)
    (kk : ∀ (r : Int32) (H1 : Heap) (locs1 : List Loc), r = r0 → va_P D vwCl ws H1 → va_S A H0 H1 locs1 → W p l e R s m args below meth c H1 locs1 cells slots Q (F0 m (pc + 3) ls (.int r :: rest))) : W p l e R s m args below meth c H locs cells slots Q (F0 m pc ls st) := by
  have hF := va_free hD hS hA is hC
  exact va_calli hr hS (fun q _ h => hF q h) hF (fun r u t H1 locs1 ht hvm hw hB hz1 hk1 hS => kk r H1 locs1 hw (x_same is hP hD hC hk1 (by rw [← ht]; exact hB)) hS)
theorem x_cl {D : va_G} {ws wc : va_W} {A : Nat → Prop} {st : List Value} {as : Array Value} {r0 : Int64} (is : List Nat)
    (hr : va_Run p l e R s m args below meth c H locs cells slots 0 0 (F0 m pc ls st) rest (va_Ql (fun (r' : Int64) (_ : Unit) => r' = r0) (xE D wc) (va_A wc H.size) as) (va_A wc H.size))
    (hP : va_P D vwCl ws H) (hD : va_D A ws) (hS : va_S A H0 H locs) (hA : ∀ q, H0.size ≤ q → A q) (hC : is.map (fun i => ws[i]?) = wc.map some)
    (kk : ∀ (r : Int64) (H1 : Heap) (locs1 : List Loc), r = r0 → va_P D vwCl ws H1 → va_S A H0 H1 locs1 → W p l e R s m args below meth c H1 locs1 cells slots Q (F0 m (pc + 3) ls (.long r :: rest))) : W p l e R s m args below meth c H locs cells slots Q (F0 m pc ls st) := by
  have hF := va_free hD hS hA is hC
  exact va_calll hr hS (fun q _ h => hF q h) hF (fun r u t H1 locs1 ht hvm hw hB hz1 hk1 hS => kk r H1 locs1 hw (x_same is hP hD hC hk1 (by rw [← ht]; exact hB)) hS)
theorem x_cq {D : va_G} {ws wc : va_W} {A : Nat → Prop} {st : List Value} {as : Array Value} {r0 : Option Nat} (is : List Nat)
    (hr : va_Run p l e R s m args below meth c H locs cells slots 0 0 (F0 m pc ls st) rest (va_Qq (fun (r' : Option Nat) (_ : Unit) => r' = r0) (xE D wc) (va_A wc H.size) as) (va_A wc H.size))
    (hP : va_P D vwCl ws H) (hD : va_D A ws) (hS : va_S A H0 H locs) (hA : ∀ q, H0.size ≤ q → A q) (hC : is.map (fun i => ws[i]?) = wc.map some)
    (kk : ∀ (r : Option Nat) (H1 : Heap) (locs1 : List Loc), r = r0 → va_P D vwCl ws H1 → va_S A H0 H1 locs1 → W p l e R s m args below meth c H1 locs1 cells slots Q (F0 m (pc + 3) ls (va_rf r :: rest))) : W p l e R s m args below meth c H locs cells slots Q (F0 m pc ls st) := by
  have hF := va_free hD hS hA is hC
  exact va_callq hr hS (fun q _ h => hF q h) hF (fun r u t H1 locs1 ht hvm hw hB hz1 hk1 hS => kk r H1 locs1 hw (x_same is hP hD hC hk1 (by rw [← ht]; exact hB)) hS)
/-- calls that write: the answer and the cells are read off one value -/
theorem x_wi {O : Type} {o0 : O} (rO : O → Int32) (cO : O → va_W) {D : va_G} {ws wc : va_W} {A : Nat → Prop} {st : List Value} {as : Array Value} (is : List Nat)
    (hr : va_Run p l e R s m args below meth c H locs cells slots 0 0 (F0 m pc ls st) rest (va_Qi (fun (r' : Int32) (_ : Unit) => r' = rO o0) (xE D (cO o0)) (va_A wc H.size) as) (va_A wc H.size))
    (hP : va_P D vwCl ws H) (hD : va_D A ws) (hS : va_S A H0 H locs) (hA : ∀ q, H0.size ≤ q → A q) (hC : is.map (fun i => ws[i]?) = wc.map some) (ha : ∀ o, is.map (fun i => (ws.map Prod.fst)[i]?) = (cO o).map (fun w => some w.1))
    (kk : ∀ (o : O) (r : Int32) (H1 : Heap) (locs1 : List Loc), o = o0 → r = rO o → va_P D vwCl (x_rep ws is (cO o)) H1 → va_D A (x_rep ws is (cO o)) → va_S A H0 H1 locs1 → W p l e R s m args below meth c H1 locs1 cells slots Q (F0 m (pc + 3) ls (.int r :: rest))) : W p l e R s m args below meth c H locs cells slots Q (F0 m pc ls st) := by
  have hF := va_free hD hS hA is hC
  refine va_calli hr hS (fun q _ h => hF q h) hF (fun r u t H1 locs1 ht hvm hw hB hz1 hk1 hS => ?_)
  obtain ⟨g1, g2⟩ := x_keep is hP hD hC (ha o0) hk1 (by rw [← ht]; exact hB)
  exact kk o0 r H1 locs1 rfl hw g1 g2 hS
theorem x_wv {O : Type} {o0 : O} (cO : O → va_W) {D : va_G} {ws wc : va_W} {A : Nat → Prop} {st : List Value} {as : Array Value} (is : List Nat)
    (hr : va_Run p l e R s m args below meth c H locs cells slots 0 0 (F0 m pc ls st) rest (va_Qv (fun (_ : Unit) => True) (xE D (cO o0)) (va_A wc H.size) as) (va_A wc H.size))
    (hP : va_P D vwCl ws H) (hD : va_D A ws) (hS : va_S A H0 H locs) (hA : ∀ q, H0.size ≤ q → A q) (hC : is.map (fun i => ws[i]?) = wc.map some) (ha : ∀ o, is.map (fun i => (ws.map Prod.fst)[i]?) = (cO o).map (fun w => some w.1))
    (kk : ∀ (o : O) (H1 : Heap) (locs1 : List Loc), o = o0 → va_P D vwCl (x_rep ws is (cO o)) H1 → va_D A (x_rep ws is (cO o)) → va_S A H0 H1 locs1 → W p l e R s m args below meth c H1 locs1 cells slots Q (F0 m (pc + 3) ls rest)) : W p l e R s m args below meth c H locs cells slots Q (F0 m pc ls st) := by
  have hF := va_free hD hS hA is hC
  refine va_callv hr hS (fun q _ h => hF q h) hF (fun u t H1 locs1 ht hvm hw hB hz1 hk1 hS => ?_)
  obtain ⟨g1, g2⟩ := x_keep is hP hD hC (ha o0) hk1 (by rw [← ht]; exact hB)
  exact kk o0 H1 locs1 rfl g1 g2 hS
end XL
theorem x_vp {i : Int32} {n : Nat} (h : n < 2 ^ 31) (h0 : ¬ i < 0) (h1 : ¬ nI n ≤ i) : vp_in i n := by
  obtain ⟨j, hj, rfl⟩ := nI_of (x := i) h0
  refine vp_in_nI ?_ h
  rcases Nat.lt_or_ge j n with q | q
  · exact q
  · exact absurd (nI_le q hj) h1
theorem x_add1 {v : Int32} (h : v.toInt < 2147483647) : (v + 1).toInt = v.toInt + 1 := by
  have h0 := fb_rng0 v
  rw [Int32.toInt_add, show (1 : Int32).toInt = 1 from rfl]
  exact fb_bmod0 (by omega) (by omega)
theorem x_up {v B : Int32} {n : Nat} (hc : ¬ B ≤ v) (hm : (B.toInt - v.toInt).toNat < n + 1) : (B.toInt - (v + 1).toInt).toNat < n := by
  have h1 : v.toInt < B.toInt := by rw [Int32.le_iff_toInt_le] at hc; omega
  have h2 := fb_rng0 B
  rw [x_add1 (by omega)]
  omega
theorem x_up' {v B : Int32} {n : Nat} (hc : v < B) (hm : (B.toInt - v.toInt).toNat < n + 1) : (B.toInt - (v + 1).toInt).toNat < n :=
  x_up (by rw [Int32.not_le]; exact hc) hm
abbrev tyA (cI cL : ClassId) : List (ClassId × FieldType) := [(cI, .int), (cL, .object RX2)]

theorem nf_OverTheShoulder_Search_114 {s : State} {args : Array Value} (h : NW s) : (Cond.fieldLinkNest "OverTheShoulder$Search" 114 "OverTheShoulder$Sheet" "lines" "I" "OverTheShoulder").before args s = true := va_Nw.use rfl (h.1 _ (List.mem_of_getElem? (i := 0) rfl))
theorem nf_OverTheShoulder_260 {s : State} {args : Array Value} (h : NW s) : (Cond.fieldLinkNest "OverTheShoulder" 260 "OverTheShoulder$Sheet" "lines" "I" "OverTheShoulder").before args s = true := va_Nw.use rfl (h.1 _ (List.mem_of_getElem? (i := 1) rfl))
theorem nf_OverTheShoulder_112 {s : State} {args : Array Value} (h : NW s) : (Cond.fieldLinkNest "OverTheShoulder" 112 "OverTheShoulder$Holder" "kind" "I" "OverTheShoulder").before args s = true := va_Nw.use rfl (h.1 _ (List.mem_of_getElem? (i := 2) rfl))
theorem nf_OverTheShoulder_Letters_61 {s : State} {args : Array Value} (h : NW s) : (Cond.fieldLinkNest "OverTheShoulder$Letters" 61 "OverTheShoulder$Holder" "kind" "I" "OverTheShoulder").before args s = true := va_Nw.use rfl (h.1 _ (List.mem_of_getElem? (i := 3) rfl))
theorem nf_OverTheShoulder_115 {s : State} {args : Array Value} (h : NW s) : (Cond.fieldLinkNest "OverTheShoulder" 115 "OverTheShoulder$Holder" "figure" "I" "OverTheShoulder").before args s = true := va_Nw.use rfl (h.1 _ (List.mem_of_getElem? (i := 4) rfl))
theorem nf_OverTheShoulder_Letters_66 {s : State} {args : Array Value} (h : NW s) : (Cond.fieldLinkNest "OverTheShoulder$Letters" 66 "OverTheShoulder$Holder" "figure" "I" "OverTheShoulder").before args s = true := va_Nw.use rfl (h.1 _ (List.mem_of_getElem? (i := 5) rfl))
theorem nf_OverTheShoulder_118 {s : State} {args : Array Value} (h : NW s) : (Cond.fieldLinkNest "OverTheShoulder" 118 "OverTheShoulder$Holder" "baseSeconds" "I" "OverTheShoulder").before args s = true := va_Nw.use rfl (h.1 _ (List.mem_of_getElem? (i := 6) rfl))
theorem nf_OverTheShoulder_Letters_72 {s : State} {args : Array Value} (h : NW s) : (Cond.fieldLinkNest "OverTheShoulder$Letters" 72 "OverTheShoulder$Holder" "baseSeconds" "I" "OverTheShoulder").before args s = true := va_Nw.use rfl (h.1 _ (List.mem_of_getElem? (i := 7) rfl))
theorem nf_OverTheShoulder_121 {s : State} {args : Array Value} (h : NW s) : (Cond.fieldLinkNest "OverTheShoulder" 121 "OverTheShoulder$Holder" "tilted" "I" "OverTheShoulder").before args s = true := va_Nw.use rfl (h.1 _ (List.mem_of_getElem? (i := 8) rfl))
theorem nf_OverTheShoulder_Letters_78 {s : State} {args : Array Value} (h : NW s) : (Cond.fieldLinkNest "OverTheShoulder$Letters" 78 "OverTheShoulder$Holder" "tilted" "I" "OverTheShoulder").before args s = true := va_Nw.use rfl (h.1 _ (List.mem_of_getElem? (i := 9) rfl))
theorem nf_OverTheShoulder_282 {s : State} {args : Array Value} (h : NW s) : (Cond.fieldLinkNest "OverTheShoulder" 282 "OverTheShoulder$Holder" "sooner" "I" "OverTheShoulder").before args s = true := va_Nw.use rfl (h.1 _ (List.mem_of_getElem? (i := 10) rfl))
theorem nf_OverTheShoulder_Search_126 {s : State} {args : Array Value} (h : NW s) : (Cond.fieldLinkNest "OverTheShoulder$Search" 126 "OverTheShoulder$Looker" "place" "I" "OverTheShoulder").before args s = true := va_Nw.use rfl (h.1 _ (List.mem_of_getElem? (i := 11) rfl))
theorem nf_OverTheShoulder_128 {s : State} {args : Array Value} (h : NW s) : (Cond.fieldLinkNest "OverTheShoulder" 128 "OverTheShoulder$Looker" "place" "I" "OverTheShoulder").before args s = true := va_Nw.use rfl (h.1 _ (List.mem_of_getElem? (i := 12) rfl))
theorem nf_OverTheShoulder_Search_117 {s : State} {args : Array Value} (h : NW s) : (Cond.fieldLinkNest "OverTheShoulder$Search" 117 "OverTheShoulder$Looker" "pace" "I" "OverTheShoulder").before args s = true := va_Nw.use rfl (h.1 _ (List.mem_of_getElem? (i := 13) rfl))
theorem nf_OverTheShoulder_131 {s : State} {args : Array Value} (h : NW s) : (Cond.fieldLinkNest "OverTheShoulder" 131 "OverTheShoulder$Looker" "pace" "I" "OverTheShoulder").before args s = true := va_Nw.use rfl (h.1 _ (List.mem_of_getElem? (i := 14) rfl))
theorem nf_OverTheShoulder_Search_87 {s : State} {args : Array Value} (h : NW s) : (Cond.fieldLinkNest "OverTheShoulder$Search" 87 "OverTheShoulder$Looker" "nerve" "I" "OverTheShoulder").before args s = true := va_Nw.use rfl (h.1 _ (List.mem_of_getElem? (i := 15) rfl))
theorem nf_OverTheShoulder_134 {s : State} {args : Array Value} (h : NW s) : (Cond.fieldLinkNest "OverTheShoulder" 134 "OverTheShoulder$Looker" "nerve" "I" "OverTheShoulder").before args s = true := va_Nw.use rfl (h.1 _ (List.mem_of_getElem? (i := 16) rfl))
theorem nf_OverTheShoulder_Search_88 {s : State} {args : Array Value} (h : NW s) : (Cond.fieldLinkNest "OverTheShoulder$Search" 88 "OverTheShoulder$Looker" "second" "I" "OverTheShoulder").before args s = true := va_Nw.use rfl (h.1 _ (List.mem_of_getElem? (i := 17) rfl))
theorem nf_OverTheShoulder_137 {s : State} {args : Array Value} (h : NW s) : (Cond.fieldLinkNest "OverTheShoulder" 137 "OverTheShoulder$Looker" "second" "I" "OverTheShoulder").before args s = true := va_Nw.use rfl (h.1 _ (List.mem_of_getElem? (i := 18) rfl))
theorem nf_OverTheShoulder_Search_91 {s : State} {args : Array Value} (h : NW s) : (Cond.fieldLinkNest "OverTheShoulder$Search" 91 "OverTheShoulder$Looker" "on" "I" "OverTheShoulder").before args s = true := va_Nw.use rfl (h.1 _ (List.mem_of_getElem? (i := 19) rfl))
theorem nf_OverTheShoulder_140 {s : State} {args : Array Value} (h : NW s) : (Cond.fieldLinkNest "OverTheShoulder" 140 "OverTheShoulder$Looker" "on" "I" "OverTheShoulder").before args s = true := va_Nw.use rfl (h.1 _ (List.mem_of_getElem? (i := 20) rfl))
theorem nf_OverTheShoulder_Search_66 {s : State} {args : Array Value} (h : NW s) : (Cond.fieldLinkNest "OverTheShoulder$Search" 66 "OverTheShoulder$Looker" "noticed" "I" "OverTheShoulder").before args s = true := va_Nw.use rfl (h.1 _ (List.mem_of_getElem? (i := 21) rfl))
theorem nf_OverTheShoulder_143 {s : State} {args : Array Value} (h : NW s) : (Cond.fieldLinkNest "OverTheShoulder" 143 "OverTheShoulder$Looker" "noticed" "I" "OverTheShoulder").before args s = true := va_Nw.use rfl (h.1 _ (List.mem_of_getElem? (i := 22) rfl))
theorem nf_OverTheShoulder_Search_94 {s : State} {args : Array Value} (h : NW s) : (Cond.fieldLinkNest "OverTheShoulder$Search" 94 "OverTheShoulder$Looker" "readLines" "I" "OverTheShoulder").before args s = true := va_Nw.use rfl (h.1 _ (List.mem_of_getElem? (i := 23) rfl))
theorem nf_OverTheShoulder_146 {s : State} {args : Array Value} (h : NW s) : (Cond.fieldLinkNest "OverTheShoulder" 146 "OverTheShoulder$Looker" "readLines" "I" "OverTheShoulder").before args s = true := va_Nw.use rfl (h.1 _ (List.mem_of_getElem? (i := 24) rfl))
theorem nf_OverTheShoulder_Search_106 {s : State} {args : Array Value} (h : NW s) : (Cond.fieldLinkNest "OverTheShoulder$Search" 106 "OverTheShoulder$Looker" "cutOff" "Z" "OverTheShoulder").before args s = true := va_Nw.use rfl (h.1 _ (List.mem_of_getElem? (i := 25) rfl))
theorem nf_OverTheShoulder_Scene_44 {s : State} {args : Array Value} (h : NW s) : (Cond.fieldLinkNest "OverTheShoulder$Scene" 44 "OverTheShoulder$Looker" "cutOff" "Z" "OverTheShoulder").before args s = true := va_Nw.use rfl (h.1 _ (List.mem_of_getElem? (i := 26) rfl))
theorem nf_OverTheShoulder_149 {s : State} {args : Array Value} (h : NW s) : (Cond.fieldLinkNest "OverTheShoulder" 149 "OverTheShoulder$Looker" "cutOff" "Z" "OverTheShoulder").before args s = true := va_Nw.use rfl (h.1 _ (List.mem_of_getElem? (i := 27) rfl))
theorem nf_OverTheShoulder_81 {s : State} {args : Array Value} (h : NW s) : (Cond.fieldLinkNest "OverTheShoulder" 81 "OverTheShoulder$Scene" "sheet" "LOverTheShoulder$Sheet;" "OverTheShoulder").before args s = true := va_Nw.use rfl (h.1 _ (List.mem_of_getElem? (i := 28) rfl))
theorem nf_OverTheShoulder_Letters_42 {s : State} {args : Array Value} (h : NW s) : (Cond.fieldLinkNest "OverTheShoulder$Letters" 42 "OverTheShoulder$Scene" "sheet" "LOverTheShoulder$Sheet;" "OverTheShoulder").before args s = true := va_Nw.use rfl (h.1 _ (List.mem_of_getElem? (i := 29) rfl))
theorem nf_OverTheShoulder_109 {s : State} {args : Array Value} (h : NW s) : (Cond.fieldLinkNest "OverTheShoulder" 109 "OverTheShoulder$Scene" "held" "LOverTheShoulder$Holder;" "OverTheShoulder").before args s = true := va_Nw.use rfl (h.1 _ (List.mem_of_getElem? (i := 30) rfl))
theorem nf_OverTheShoulder_Letters_57 {s : State} {args : Array Value} (h : NW s) : (Cond.fieldLinkNest "OverTheShoulder$Letters" 57 "OverTheShoulder$Scene" "held" "LOverTheShoulder$Holder;" "OverTheShoulder").before args s = true := va_Nw.use rfl (h.1 _ (List.mem_of_getElem? (i := 31) rfl))
theorem nf_OverTheShoulder_177 {s : State} {args : Array Value} (h : NW s) : (Cond.fieldLinkNest "OverTheShoulder" 177 "OverTheShoulder$Scene" "lookers" "I" "OverTheShoulder").before args s = true := va_Nw.use rfl (h.1 _ (List.mem_of_getElem? (i := 32) rfl))
theorem nf_OverTheShoulder_74 {s : State} {args : Array Value} (h : NW s) : (Cond.fieldLinkNest "OverTheShoulder" 74 "OverTheShoulder$Letters" "told" "I" "OverTheShoulder").before args s = true := va_Nw.use rfl (h.1 _ (List.mem_of_getElem? (i := 33) rfl))
theorem nf_OverTheShoulder_276 {s : State} {args : Array Value} (h : NW s) : (Cond.fieldLinkNest "OverTheShoulder" 276 "OverTheShoulder$Search" "bestLength" "I" "OverTheShoulder").before args s = true := va_Nw.use rfl (h.1 _ (List.mem_of_getElem? (i := 34) rfl))
theorem nm_OverTheShoulder_Scene_11 {s : State} (h : NW s) : va_Nw (.methodLinkNest "OverTheShoulder$Scene" 11 ⟨"OverTheShoulder$Sheet", "<init>", "()V"⟩ "OverTheShoulder") s := h.2 _ (List.mem_of_getElem? (i := 0) rfl)
theorem nm_OverTheShoulder_Scene_20 {s : State} (h : NW s) : va_Nw (.methodLinkNest "OverTheShoulder$Scene" 20 ⟨"OverTheShoulder$Holder", "<init>", "()V"⟩ "OverTheShoulder") s := h.2 _ (List.mem_of_getElem? (i := 1) rfl)
theorem nm_OverTheShoulder_Scene_35 {s : State} (h : NW s) : va_Nw (.methodLinkNest "OverTheShoulder$Scene" 35 ⟨"OverTheShoulder$Looker", "<init>", "()V"⟩ "OverTheShoulder") s := h.2 _ (List.mem_of_getElem? (i := 2) rfl)
theorem nm_OverTheShoulder_21 {s : State} (h : NW s) : va_Nw (.methodLinkNest "OverTheShoulder" 21 ⟨"OverTheShoulder$Letters", "<init>", "()V"⟩ "OverTheShoulder") s := h.2 _ (List.mem_of_getElem? (i := 3) rfl)
theorem nm_OverTheShoulder_28 {s : State} (h : NW s) : va_Nw (.methodLinkNest "OverTheShoulder" 28 ⟨"OverTheShoulder$Search", "<init>", "()V"⟩ "OverTheShoulder") s := h.2 _ (List.mem_of_getElem? (i := 4) rfl)
theorem nm_OverTheShoulder_35 {s : State} (h : NW s) : va_Nw (.methodLinkNest "OverTheShoulder" 35 ⟨"OverTheShoulder$Holder", "<init>", "()V"⟩ "OverTheShoulder") s := h.2 _ (List.mem_of_getElem? (i := 5) rfl)
theorem nm_OverTheShoulder_42 {s : State} (h : NW s) : va_Nw (.methodLinkNest "OverTheShoulder" 42 ⟨"OverTheShoulder$Looker", "<init>", "()V"⟩ "OverTheShoulder") s := h.2 _ (List.mem_of_getElem? (i := 6) rfl)
theorem nm_OverTheShoulder_Letters_23 {s : State} (h : NW s) : va_Nw (.methodLinkNest "OverTheShoulder$Letters" 23 ⟨"OverTheShoulder", "put", "([III)V"⟩ "OverTheShoulder") s := h.2 _ (List.mem_of_getElem? (i := 7) rfl)
theorem nm_OverTheShoulder_Letters_95 {s : State} (h : NW s) : va_Nw (.methodLinkNest "OverTheShoulder$Letters" 95 ⟨"OverTheShoulder", "at", "([II)I"⟩ "OverTheShoulder") s := h.2 _ (List.mem_of_getElem? (i := 8) rfl)
theorem nm_OverTheShoulder_Sheet_28 {s : State} (h : NW s) : va_Nw (.methodLinkNest "OverTheShoulder$Sheet" 28 ⟨"OverTheShoulder", "put", "([III)V"⟩ "OverTheShoulder") s := h.2 _ (List.mem_of_getElem? (i := 9) rfl)
theorem nm_OverTheShoulder_Sheet_45 {s : State} (h : NW s) : va_Nw (.methodLinkNest "OverTheShoulder$Sheet" 45 ⟨"OverTheShoulder", "at", "([II)I"⟩ "OverTheShoulder") s := h.2 _ (List.mem_of_getElem? (i := 10) rfl)
theorem nm_OverTheShoulder_Search_83 {s : State} (h : NW s) : va_Nw (.methodLinkNest "OverTheShoulder$Search" 83 ⟨"OverTheShoulder", "put", "([III)V"⟩ "OverTheShoulder") s := h.2 _ (List.mem_of_getElem? (i := 11) rfl)
theorem nm_OverTheShoulder_Search_102 {s : State} (h : NW s) : va_Nw (.methodLinkNest "OverTheShoulder$Search" 102 ⟨"OverTheShoulder", "at", "([II)I"⟩ "OverTheShoulder") s := h.2 _ (List.mem_of_getElem? (i := 12) rfl)
