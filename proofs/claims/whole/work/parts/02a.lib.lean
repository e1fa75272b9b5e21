def nF : List (String × Nat × String × String × String × String) := [("OverTheShoulder$Search", 114, "OverTheShoulder$Sheet", "lines", "I", "OverTheShoulder"), ("OverTheShoulder", 260, "OverTheShoulder$Sheet", "lines", "I", "OverTheShoulder"), ("OverTheShoulder", 112, "OverTheShoulder$Holder", "kind", "I", "OverTheShoulder"), ("OverTheShoulder$Letters", 61, "OverTheShoulder$Holder", "kind", "I", "OverTheShoulder"), ("OverTheShoulder", 115, "OverTheShoulder$Holder", "figure", "I", "OverTheShoulder"), ("OverTheShoulder$Letters", 66, "OverTheShoulder$Holder", "figure", "I", "OverTheShoulder"), ("OverTheShoulder", 118, "OverTheShoulder$Holder", "baseSeconds", "I", "OverTheShoulder"), ("OverTheShoulder$Letters", 72, "OverTheShoulder$Holder", "baseSeconds", "I", "OverTheShoulder"), ("OverTheShoulder", 121, "OverTheShoulder$Holder", "tilted", "I", "OverTheShoulder"), ("OverTheShoulder$Letters", 78, "OverTheShoulder$Holder", "tilted", "I", "OverTheShoulder"), ("OverTheShoulder", 282, "OverTheShoulder$Holder", "sooner", "I", "OverTheShoulder"), ("OverTheShoulder$Search", 126, "OverTheShoulder$Looker", "place", "I", "OverTheShoulder"), ("OverTheShoulder", 128, "OverTheShoulder$Looker", "place", "I", "OverTheShoulder"), ("OverTheShoulder$Search", 117, "OverTheShoulder$Looker", "pace", "I", "OverTheShoulder"), ("OverTheShoulder", 131, "OverTheShoulder$Looker", "pace", "I", "OverTheShoulder"), ("OverTheShoulder$Search", 87, "OverTheShoulder$Looker", "nerve", "I", "OverTheShoulder"), ("OverTheShoulder", 134, "OverTheShoulder$Looker", "nerve", "I", "OverTheShoulder"), ("OverTheShoulder$Search", 88, "OverTheShoulder$Looker", "second", "I", "OverTheShoulder"), ("OverTheShoulder", 137, "OverTheShoulder$Looker", "second", "I", "OverTheShoulder"), ("OverTheShoulder$Search", 91, "OverTheShoulder$Looker", "on", "I", "OverTheShoulder"), ("OverTheShoulder", 140, "OverTheShoulder$Looker", "on", "I", "OverTheShoulder"), ("OverTheShoulder$Search", 66, "OverTheShoulder$Looker", "noticed", "I", "OverTheShoulder"), ("OverTheShoulder", 143, "OverTheShoulder$Looker", "noticed", "I", "OverTheShoulder"), ("OverTheShoulder$Search", 94, "OverTheShoulder$Looker", "readLines", "I", "OverTheShoulder"), ("OverTheShoulder", 146, "OverTheShoulder$Looker", "readLines", "I", "OverTheShoulder"), ("OverTheShoulder$Search", 106, "OverTheShoulder$Looker", "cutOff", "Z", "OverTheShoulder"), ("OverTheShoulder$Scene", 44, "OverTheShoulder$Looker", "cutOff", "Z", "OverTheShoulder"), ("OverTheShoulder", 149, "OverTheShoulder$Looker", "cutOff", "Z", "OverTheShoulder"), ("OverTheShoulder", 81, "OverTheShoulder$Scene", "sheet", "LOverTheShoulder$Sheet;", "OverTheShoulder"), ("OverTheShoulder$Letters", 42, "OverTheShoulder$Scene", "sheet", "LOverTheShoulder$Sheet;", "OverTheShoulder"), ("OverTheShoulder", 109, "OverTheShoulder$Scene", "held", "LOverTheShoulder$Holder;", "OverTheShoulder"), ("OverTheShoulder$Letters", 57, "OverTheShoulder$Scene", "held", "LOverTheShoulder$Holder;", "OverTheShoulder"), ("OverTheShoulder", 177, "OverTheShoulder$Scene", "lookers", "I", "OverTheShoulder"), ("OverTheShoulder", 74, "OverTheShoulder$Letters", "told", "I", "OverTheShoulder"), ("OverTheShoulder", 276, "OverTheShoulder$Search", "bestLength", "I", "OverTheShoulder")]
def nM : List (String × Nat × MethodName × String) := [("OverTheShoulder$Scene", 11, ⟨"OverTheShoulder$Sheet", "<init>", "()V"⟩, "OverTheShoulder"), ("OverTheShoulder$Scene", 20, ⟨"OverTheShoulder$Holder", "<init>", "()V"⟩, "OverTheShoulder"), ("OverTheShoulder$Scene", 35, ⟨"OverTheShoulder$Looker", "<init>", "()V"⟩, "OverTheShoulder"), ("OverTheShoulder", 21, ⟨"OverTheShoulder$Letters", "<init>", "()V"⟩, "OverTheShoulder"), ("OverTheShoulder", 28, ⟨"OverTheShoulder$Search", "<init>", "()V"⟩, "OverTheShoulder"), ("OverTheShoulder", 35, ⟨"OverTheShoulder$Holder", "<init>", "()V"⟩, "OverTheShoulder"), ("OverTheShoulder", 42, ⟨"OverTheShoulder$Looker", "<init>", "()V"⟩, "OverTheShoulder"), ("OverTheShoulder$Letters", 23, ⟨"OverTheShoulder", "put", "([III)V"⟩, "OverTheShoulder"), ("OverTheShoulder$Sheet", 28, ⟨"OverTheShoulder", "put", "([III)V"⟩, "OverTheShoulder"), ("OverTheShoulder$Sheet", 45, ⟨"OverTheShoulder", "at", "([II)I"⟩, "OverTheShoulder"), ("OverTheShoulder$Search", 83, ⟨"OverTheShoulder", "put", "([III)V"⟩, "OverTheShoulder"), ("OverTheShoulder$Search", 102, ⟨"OverTheShoulder", "at", "([II)I"⟩, "OverTheShoulder")]
def NW (U : State) : Prop := (∀ q ∈ nF, va_Nw (.fieldLinkNest q.1 q.2.1 q.2.2.1 q.2.2.2.1 q.2.2.2.2.1 q.2.2.2.2.2) U) ∧ (∀ q ∈ nM, va_Nw (.methodLinkNest q.1 q.2.1 q.2.2.1 q.2.2.2) U)
theorem NW.warm {s U : State} (hW : s.WarmedH U.vm) (h : NW s) : NW U := ⟨fun q hq => va_Nw.warmF hW (h.1 q hq), fun q hq => va_Nw.warmM hW (h.2 q hq)⟩
theorem NW.same {u U : State} (hv : u.vm = U.vm) (h : NW u) : NW U := ⟨fun q hq => va_Nw.same rfl hv (h.1 q hq), fun q hq => va_Nw.same rfl hv (h.2 q hq)⟩
abbrev wm (y : MethodName) (c : ByteArray) (n : Nat) (r : Option FieldType) : List Cond := .code y c n r :: wsL_law
theorem w_in {y : MethodName} {c : ByteArray} {n : Nat} {r : Option FieldType} {w : Cond} (h : w ∈ wsL_law) : w ∈ wm y c n r := List.mem_cons_of_mem _ h
theorem gg_ok {big : List Cond} (hb : ∀ w ∈ wsL_law, w ∈ big) {y : MethodName} {c : ByteArray} {n : Nat} {r : Option FieldType} (h : Cond.code y c n r ∈ wsL_law) : GoodIn big (wm y c n r) := fun w hw => by
  rcases List.mem_cons.mp hw with rfl | hw
  · exact ⟨hb _ h, wsL_good h⟩
  · exact ⟨hb _ hw, wsL_good hw⟩
theorem g1_ok {big : List Cond} (hb : ∀ w ∈ wsL_law, w ∈ big) {w : Cond} {ws : List Cond} (h : w ∈ wsL_law) (hg : GoodIn big ws) : GoodIn big (w :: ws) := fun v hv => by
  rcases List.mem_cons.mp hv with rfl | hv
  · exact ⟨hb _ h, wsL_good h⟩
  · exact hg v hv
theorem gv_ok {big : List Cond} (hb : ∀ w ∈ wsL_law, w ∈ big) {own C : String} {idx : Nat} {y : MethodName} {c : ByteArray} {n : Nat} {r : Option FieldType} (h0 : Cond.code y c n r ∈ wsL_law) (h1 : Cond.methodLink own idx y ∈ wsL_law) (h2 : Cond.instanceMethod y ∈ wsL_law) (h3 : Cond.selects C y y ∈ wsL_law) (h4 : Cond.initialized C ∈ wsL_law) : GoodIn big (wsV own idx C y (wm y c n r)) :=
  g1_ok hb h1 (g1_ok hb h2 (g1_ok hb h3 (g1_ok hb h4 (gg_ok hb h0))))
theorem gs_ok {big : List Cond} (hb : ∀ w ∈ wsL_law, w ∈ big) {own : String} {idx : Nat} {y : MethodName} {c : ByteArray} {n : Nat} {r : Option FieldType} (h0 : Cond.code y c n r ∈ wsL_law) (h1 : Cond.methodLink own idx y ∈ wsL_law) (h2 : Cond.static y ∈ wsL_law) (h3 : Cond.initialized y.cls ∈ wsL_law) : GoodIn big (va_wsS own idx y (wm y c n r)) :=
  g1_ok hb h1 (g1_ok hb h2 (g1_ok hb h3 (gg_ok hb h0)))
theorem x_nk {x k : Int32} {z : Int} (h : ¬ x = k) (hz : k.toInt = z) : ¬ z = x.toInt := fun e => h (Int32.toInt_inj.mp (e.symm.trans hz.symm))
theorem x_ne {x y : Int32} (h : ¬ x = y) : ¬ x.toInt = y.toInt := fun e => h (Int32.toInt_inj.mp e)
/-- a world with some cells put anew, by their places -/
def x_rep (ws : va_W) : List Nat → va_W → va_W
  | i :: is, w :: w1 => x_rep (ws.set i w) is w1
  | _, _ => ws
theorem x_rep_get : ∀ (is : List Nat) (ws w1 : va_W), is.length = w1.length → ∀ (k : Nat) (q : Nat × va_E), (x_rep ws is w1)[k]? = some q → q ∈ w1 ∨ (k ∉ is ∧ ws[k]? = some q)
  | [], ws, w1, _, k, q, h => Or.inr ⟨List.not_mem_nil, by cases w1 <;> exact h⟩
  | i :: is, ws, [], hl, k, q, h => by cases hl
  | i :: is, ws, w :: w1, hl, k, q, h => by
    have h0 : (x_rep (ws.set i w) is w1)[k]? = some q := h
    rcases x_rep_get is (ws.set i w) w1 (Nat.succ.inj hl) k q h0 with h1 | ⟨h1, h2⟩
    · exact Or.inl (List.mem_cons_of_mem _ h1)
    · by_cases hk : k = i
      · subst hk
        have hlt : k < ws.length := by
          have := (List.getElem?_eq_some_iff.mp h2).1
          simpa using this
        rw [List.getElem?_set_self hlt] at h2
        cases h2
        exact Or.inl List.mem_cons_self
      · rw [List.getElem?_set_ne (Ne.symm hk)] at h2
        exact Or.inr ⟨fun hm => (List.mem_cons.mp hm).elim hk h1, h2⟩
theorem x_set_fst {ws : va_W} {i : Nat} {w : Nat × va_E} (h : (ws.map Prod.fst)[i]? = some w.1) : (ws.set i w).map Prod.fst = ws.map Prod.fst := by
  rw [List.map_set]
  apply List.ext_getElem?
  intro k
  by_cases hk : i = k
  · subst hk
    rw [List.getElem?_set_self (List.getElem?_eq_some_iff.mp h).1, h]
  · rw [List.getElem?_set_ne hk]
theorem x_rep_fst : ∀ (is : List Nat) (ws w1 : va_W), is.map (fun i => (ws.map Prod.fst)[i]?) = w1.map (fun w => some w.1) → (x_rep ws is w1).map Prod.fst = ws.map Prod.fst
  | [], ws, [], _ => rfl
  | [], ws, _ :: _, h => by cases h
  | _ :: _, ws, [], h => by cases h
  | i :: is, ws, w :: w1, h => by
    have h1 : (ws.map Prod.fst)[i]? = some w.1 := (List.cons.inj h).1
    have h2 := (List.cons.inj h).2
    have h3 : is.map (fun j => ((ws.set i w).map Prod.fst)[j]?) = w1.map (fun w => some w.1) := by rw [x_set_fst h1]; exact h2
    exact (x_rep_fst is (ws.set i w) w1 h3).trans (x_set_fst h1)
theorem x_D_of {A : Nat → Prop} {ws ws' : va_W} (h : ws'.map Prod.fst = ws.map Prod.fst) (hD : va_D A ws) : va_D A ws' := by
  have key : ∀ (k : Nat) (q : Nat × va_E), ws'[k]? = some q → ∃ q0, ws[k]? = some q0 ∧ q0.1 = q.1 := by
    intro k q hk
    have h1 : (ws'.map Prod.fst)[k]? = some q.1 := by rw [List.getElem?_map, hk]; rfl
    rw [h, List.getElem?_map] at h1
    cases h2 : ws[k]? with
    | none => rw [h2] at h1; cases h1
    | some q0 => rw [h2] at h1; exact ⟨q0, rfl, Option.some.inj h1⟩
  refine ⟨fun i j x y hi hj hxy => ?_, fun k q hk => ?_⟩
  · obtain ⟨x0, h1, h2⟩ := key i x hi
    obtain ⟨y0, h3, h4⟩ := key j y hj
    exact hD.1 i j x0 y0 h1 h3 (h2.trans (hxy.trans h4.symm))
  · obtain ⟨q0, h1, h2⟩ := key k q hk
    rw [← h2]
    exact hD.2 k q0 h1
theorem x_at {ws wc : va_W} {is : List Nat} (hC : is.map (fun i => ws[i]?) = wc.map some) {k : Nat} {q : Nat × va_E} (hq : wc[k]? = some q) : ∃ i, is[k]? = some i ∧ ws[i]? = some q := by
  have h1 : (is.map (fun i => ws[i]?))[k]? = some (some q) := by rw [hC, List.getElem?_map, hq]; rfl
  rw [List.getElem?_map] at h1
  cases hi : is[k]? with
  | none => rw [hi] at h1; cases h1
  | some i => rw [hi] at h1; exact ⟨i, rfl, Option.some.inj h1⟩
theorem x_off {A0 : Nat → Prop} {D : va_G} {cl : List vw_C} {ws wc : va_W} {H : Heap} {is : List Nat} (hP : va_P D cl ws H) (hD : va_D A0 ws) (hC : is.map (fun i => ws[i]?) = wc.map some) {k : Nat} {q : Nat × va_E} (hk : ws[k]? = some q) (hn : k ∉ is) : q.1 < H.size ∧ ¬ va_A wc H.size q.1 := by
  have hl := (hP k q hk).lt
  refine ⟨hl, fun h => ?_⟩
  rcases h with ⟨k2, e, h⟩ | h
  · obtain ⟨j, h3, h4⟩ := x_at hC h
    have hij := hD.1 k j q (q.1, e) hk h4 rfl
    subst hij
    exact hn (List.mem_of_getElem? h3)
  · omega
theorem x_len {ws wc : va_W} {is : List Nat} (hC : is.map (fun i => ws[i]?) = wc.map some) : is.length = wc.length := by
  have := congrArg List.length hC
  simpa using this
theorem x_keep {A0 : Nat → Prop} {D : va_G} {cl : List vw_C} {ws wc w1 : va_W} {H H1 : Heap} (is : List Nat) (hP : va_P D cl ws H) (hD : va_D A0 ws) (hC : is.map (fun i => ws[i]?) = wc.map some) (ha : is.map (fun i => (ws.map Prod.fst)[i]?) = w1.map (fun w => some w.1)) (hk : ∀ q : Nat, q < H.size → ¬ va_A wc H.size q → H1[q]? = H[q]?) (hP1 : va_P D cl w1 H1) : va_P D cl (x_rep ws is w1) H1 ∧ va_D A0 (x_rep ws is w1) := by
  refine ⟨fun k q h => ?_, x_D_of (x_rep_fst is ws w1 ha) hD⟩
  have hl : is.length = w1.length := by have := congrArg List.length ha; simpa using this
  rcases x_rep_get is ws w1 hl k q h with h1 | ⟨h1, h2⟩
  · obtain ⟨j, hj⟩ := List.getElem?_of_mem h1
    exact hP1 j q hj
  · obtain ⟨g1, g2⟩ := x_off hP hD hC h2 h1
    exact (hP k q h2).kept (hk q.1 g1 g2)
theorem x_same {A0 : Nat → Prop} {D : va_G} {cl : List vw_C} {ws wc : va_W} {H H1 : Heap} (is : List Nat) (hP : va_P D cl ws H) (hD : va_D A0 ws) (hC : is.map (fun i => ws[i]?) = wc.map some) (hk : ∀ q : Nat, q < H.size → ¬ va_A wc H.size q → H1[q]? = H[q]?) (hP1 : va_P D cl wc H1) : va_P D cl ws H1 := by
  intro k q h
  by_cases hn : k ∈ is
  · obtain ⟨j, hj⟩ := List.getElem?_of_mem hn
    have h1 : (is.map (fun i => ws[i]?))[j]? = some (some q) := by rw [List.getElem?_map, hj]; exact congrArg some h
    rw [hC, List.getElem?_map] at h1
    cases hw : wc[j]? with
    | none => rw [hw] at h1; cases h1
    | some q' => rw [hw] at h1; cases h1; exact hP1 j _ hw
  · obtain ⟨g1, g2⟩ := x_off hP hD hC h hn
    exact (hP k q h).kept (hk q.1 g1 g2)
theorem x_cut {D : va_G} {cl : List vw_C} {ws wc : va_W} {H : Heap} (is : List Nat) (hP : va_P D cl ws H) (hC : is.map (fun i => ws[i]?) = wc.map some) : va_P D cl wc H := by
  intro k q h
  obtain ⟨i, -, h2⟩ := x_at hC h
  exact hP i q h2
