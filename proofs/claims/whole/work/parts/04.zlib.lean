/-! ABSTRACT HEAPS. A heap is seen as a map V from addresses to cells (arrays with the tag of their type, objects with the number of their class), and its size n. Contracts speak of the whole map: nothing has to be cut out or joined. -/
abbrev zE : Type := (Nat × vp_A) ⊕ (Nat × List Value)
abbrev zV : Type := Nat → Option zE
/-- how a method ends: its answer, or the class of what it throws; the map and the size behind it -/
abbrev zR : Type := (Option Value ⊕ String) × zV × Nat
def z_e (dA : Nat → ClassId) (x : zE) : va_E := match x with
  | .inl q => .inl (dA q.1, q.2)
  | .inr o => .inr o
def z_P (D : va_G) (dA : Nat → ClassId) (cl : List vw_C) (V : zV) (H : Heap) : Prop := ∀ (a : Nat) (x : zE), V a = some x → va_at D cl (a, z_e dA x) H
def z_up (V : zV) (a : Nat) (x : zE) : zV := fun q => if q = a then some x else V q
def z_A (V : zV) (n : Nat) : Nat → Prop := fun q => (∃ x, V q = some x) ∨ n ≤ q
/-- the machine's heap H holds V, is of size n, and since H0 nothing outside A was written -/
def z_H (D : va_G) (dA : Nat → ClassId) (cl : List vw_C) (A : Nat → Prop) (H0 : Heap) (V : zV) (n : Nat) (H : Heap) (locs : List Loc) : Prop := va_S A H0 H locs ∧ H.size = n ∧ z_P D dA cl V H ∧ ∀ (a : Nat) (x : zE), V a = some x → A a
theorem z_P.lt {D : va_G} {dA : Nat → ClassId} {cl : List vw_C} {V : zV} {H : Heap} (h : z_P D dA cl V H) {a : Nat} {x : zE} (ha : V a = some x) : a < H.size := (h a x ha).lt
theorem z_P.one {D : va_G} {dA : Nat → ClassId} {cl : List vw_C} {V : zV} {H : Heap} (h : z_P D dA cl V H) {a : Nat} {x : zE} (ha : V a = some x) : va_P D cl [(a, z_e dA x)] H := by
  intro k q hq
  have hk : k < 1 := (List.getElem?_eq_some_iff.mp hq).1
  rw [show k = 0 by omega] at hq
  cases hq
  exact h a x ha
theorem z_P.put {D : va_G} {dA : Nat → ClassId} {cl : List vw_C} {V : zV} {H H1 : Heap} (h : z_P D dA cl V H) {a : Nat} {x : zE} (he : va_at D cl (a, z_e dA x) H1) (oq : ∀ q : Nat, q ≠ a → q < H.size → H1[q]? = H[q]?) : z_P D dA cl (z_up V a x) H1 := by
  intro b y hb
  unfold z_up at hb
  by_cases e : b = a
  · rw [if_pos e] at hb
    cases hb
    rw [e]; exact he
  · rw [if_neg e] at hb
    exact (h b y hb).kept (oq b e (h.lt hb))
theorem z_H.put {D : va_G} {dA : Nat → ClassId} {cl : List vw_C} {A : Nat → Prop} {H0 H H1 : Heap} {V : zV} {n : Nat} {locs : List Loc} (h : z_H D dA cl A H0 V n H locs) {a k : Nat} {x0 x : zE} (ha : V a = some x0) (he : va_at D cl (a, z_e dA x) H1) (z : H1.size = H.size) (oq : ∀ q : Nat, q ≠ a → H1[q]? = H[q]?) : z_H D dA cl A H0 (z_up V a x) n H1 (locs ++ [⟨a, k⟩]) := by
  obtain ⟨hS, hn, hP, hA⟩ := h
  refine ⟨hS.put z oq (hA a x0 ha), z.trans hn, hP.put he (fun q h1 _ => oq q h1), fun b y hb => ?_⟩
  unfold z_up at hb
  by_cases e : b = a
  · rw [e]; exact hA a x0 ha
  · rw [if_neg e] at hb
    exact hA b y hb
theorem z_H.push {D : va_G} {dA : Nat → ClassId} {cl : List vw_C} {A : Nat → Prop} {H0 H H1 : Heap} {V : zV} {n : Nat} {locs : List Loc} (h : z_H D dA cl A H0 V n H locs) (hA9 : ∀ q, H0.size ≤ q → A q) {x : zE} (he : va_at D cl (n, z_e dA x) H1) (z : H1.size = n + 1) (oq : ∀ q : Nat, q < n → H1[q]? = H[q]?) : z_H D dA cl A H0 (z_up V n x) (n + 1) H1 locs := by
  obtain ⟨hS, hn, hP, hA⟩ := h
  refine ⟨⟨Nat.le_trans hS.1 (by omega), fun q h1 h2 => (oq q (by have := hS.1; omega)).trans (hS.2.1 q h1 h2), hS.2.2⟩, z, hP.put he (fun q h1 h2 => oq q (by omega)), fun b y hb => ?_⟩
  unfold z_up at hb
  by_cases e : b = n
  · rw [e]; exact hA9 n (by rw [← hn]; exact hS.1)
  · rw [if_neg e] at hb
    exact hA b y hb
/-! THE METHOD'S CONTEXT. zcl: the classes of the worlds; ztl: the types of arrays, by their tags; zTs: the tables' words -/
abbrev zX : Type := Program × Launch × Env × Room × State × MethodId × Array Value × List Frame × Method × Code × va_G × (Nat → ClassId) × zV × Nat × Nat × Nat
def zstr : List (String × Nat × String) := [("BarrierMarks", 260, "no such task"), ("BarrierMarks", 68, "no more channels can be made"), ("BarrierMarks", 89, "a ring, or a task without a channel into it"), ("BarrierMarks", 262, "no such channel"), ("BarrierMarks", 242, "the channel is no source"), ("BarrierMarks", 111, "the log has its end, or is full"), ("BarrierMarks", 117, "the log has its end"), ("BarrierMarks", 125, "three marks are begun, or there are forty"), ("BarrierMarks", 267, "no such mark"), ("BarrierMarks", 146, "turns are 1 to 2000"), ("BarrierMarks", 269, "the mark is not begun"), ("BarrierMarks", 170, "the task has kept, or was told so already"), ("BarrierMarks", 175, "the task has not kept, or 200 acks wait"), ("BarrierMarks", 271, "the mark is not complete"), ("BarrierMarks", 219, "what is 0 or 1"), ("BarrierMarks", 273, "the task has not kept for the mark"), ("BarrierMarks", 265, "a source, or no such thing"), ("BarrierMarks", 258, "what is 0 to 3")]
def znc : List (String × String) := [("BarrierMarks$Line", "BarrierMarks$Source"), ("BarrierMarks$Source", "BarrierMarks$Line")]
def zcast : List (String × String) := [("java/lang/IndexOutOfBoundsException", "java/lang/IndexOutOfBoundsException"), ("java/lang/IllegalStateException", "java/lang/IllegalStateException"), ("java/lang/IllegalArgumentException", "java/lang/IllegalArgumentException"), ("BarrierMarks$Source", "BarrierMarks$Source"), ("BarrierMarks$Line", "BarrierMarks$Line"), ("BarrierMarks$Line", "BarrierMarks$Channel"), ("BarrierMarks$Source", "BarrierMarks$Channel")]
def zdecl : List MethodName := [⟨"BarrierMarks$Channel", "beginMark", "(I)V"⟩, ⟨"BarrierMarks$Channel", "dropBarrier", "(I)V"⟩, ⟨"BarrierMarks$Channel", "nextKind", "()I"⟩, ⟨"BarrierMarks$Channel", "nextValue", "()J"⟩, ⟨"BarrierMarks$Channel", "passNext", "()V"⟩, ⟨"BarrierMarks$Channel", "goBack", "(I)V"⟩, ⟨"BarrierMarks$Channel", "left", "()I"⟩, ⟨"java/lang/RuntimeException", "<init>", "(Ljava/lang/String;)V"⟩, ⟨"java/lang/Exception", "<init>", "(Ljava/lang/String;)V"⟩, ⟨"java/lang/Throwable", "<init>", "(Ljava/lang/String;)V"⟩]
def zao : List String := ["BarrierMarks$Task", "BarrierMarks$Channel", "BarrierMarks$Line", "BarrierMarks$Mark"]
/-- what a throw needs of the statics, the String constants, the casts, the abstract methods, the private constructor of a nest mate -/
def zT (A : Nat → Prop) (s : State) : Prop := vx_Zq Bundle.tN "UNASSIGNED_STACK" Bundle.steD A s s.heap ∧ vx_Zq Bundle.tN "SUPPRESSED_SENTINEL" Bundle.listD A s s.heap ∧ (∀ q ∈ zstr, ∃ sa : Nat, vk_R q.1 q.2.1 q.2.2 sa s) ∧ (∀ q ∈ znc, va_Nc q.1 q.2 s) ∧ (∀ q ∈ zcast, va_Nw (.castable q.1 q.2) s) ∧ (∀ y ∈ zdecl, va_Nw (.declares y) s) ∧ va_Nw (.methodLinkNest "BarrierMarks" 23 ⟨"BarrierMarks$AckRow", "<init>", "()V"⟩ "BarrierMarks") s ∧ ∀ E ∈ zao, va_AO E s
theorem zT.move {A B : Nat → Prop} {s U : State} {H : Heap} {locs : List Loc} (h : zT A s) (hS : va_S A s.heap H locs) (hU : U.heap = H) (hW : s.WarmedH U.vm) (hAB : ∀ q, B q → A q) : zT B U := by
  obtain ⟨h1, h2, h3, h4, h5, h6, h7, h8⟩ := h
  refine ⟨?_, ?_, fun q hq => ?_, fun q hq => (h4 q hq).moved hW.alike, fun q hq => va_Nw.warmC hW (h5 q hq), fun y hy => va_Nw.warmD hW (h6 y hy), va_Nw.warmM hW h7, fun E hE => (h8 E hE).moved hW.alike⟩
  · rw [hU]; exact ((h1.kept hS.2.1).moved hW.alike).narrow hAB
  · rw [hU]; exact ((h2.kept hS.2.1).moved hW.alike).narrow hAB
  · obtain ⟨sa, h⟩ := h3 q hq
    exact ⟨sa, h.warm hW⟩
/-- what the tables say of classes and arrays, and what a throw needs of the statics -/
def zK (D : va_G) (dA : Nat → ClassId) (A : Nat → Prop) (s : State) : Prop := va_K D zcl [] s ∧ (∀ (t : Nat) (ty : FieldType), ztl[t]? = some ty → ArrOfT s (dA t) ty ∧ va_RA s (dA t) ty) ∧ zT A s
theorem zK.arr {D : va_G} {dA : Nat → ClassId} {A : Nat → Prop} {s : State} (h : zK D dA A s) {t : Nat} {ty : FieldType} (ht : ztl[t]? = some ty) : va_K D zcl [(dA t, ty)] s := by
  refine ⟨h.1.1, fun k q hk => ?_⟩
  have hk0 : k < 1 := (List.getElem?_eq_some_iff.mp hk).1
  rw [show k = 0 by omega] at hk
  cases hk
  exact h.2.1 t ty ht
def z_W (D : va_G) (dA : Nat → ClassId) (V0 : zV) (n0 : Nat) (V : zV) (st t : State) : Prop := z_P D dA zcl V t.heap ∧ (∀ (a : Nat) (x : zE), V a = some x → z_A V0 n0 a) ∧ va_F (z_A V0 n0) st t
def z_Q (D : va_G) (dA : Nat → ClassId) (V0 : zV) (n0 : Nat) (w : zR) : Array Value → State → Outcome → State → Prop := fun _ st o t => ∃ v : Option Value, w.1 = .inl v ∧ o = .returned v ∧ t.heap.size = w.2.2 ∧ z_W D dA V0 n0 w.2.1 st t
def z_XC (D : va_G) (dA : Nat → ClassId) (V0 : zV) (n0 : Nat) (w : zR) : String → State → State → Prop := fun E st t => w.1 = .inr E ∧ z_W D dA V0 n0 w.2.1 st t
/-- at frame (pc, locals lv, stack st), over the map V of size n: the method comes to the end w -/
def zZ (x : zX) (nL cells slots : Nat) (w : zR) (V : zV) (n pc : Nat) (lv : List (Nat × Value)) (st : List Value) : Prop := match x with
  | (p, l, e, R, s, m, args, below, meth, c, D, dA, V0, n0, mc, ms) => ∀ (H : Heap) (locs : List Loc) (ls : Array Slot), z_H D dA zcl (z_A V0 n0) s.heap V n H locs → lv_has ls nL lv → W p l e R s m args below meth c H locs cells slots (vx_MQ below (z_Q D dA V0 n0 w) (z_XC D dA V0 n0 w) args s mc ms (z_A V0 n0)) (F0 m pc ls st)
def zC (x : zX) (cc : ByteArray) (own nm : String) (nL F L : Nat) (ret : Option FieldType) : Prop := match x with
  | (p, l, _, R, s, m, args, _, meth, c, D, dA, V0, n0, mc, ms) => p.tables.exec = Jvm.exec ∧ c.code = cc ∧ c.maxLocals = nL ∧ s.vm.findClass own = some m.cls ∧ (∀ w ∈ zTs, w.before args s = true) ∧ zK D dA (z_A V0 n0) s ∧ s.heap.size = n0 ∧ meth.locks = false ∧ meth.sig.returnType = ret ∧ meth.name = nm ∧ (∀ x ∈ c.exceptionTable.toList, False) ∧ l.stackTraces = false ∧ R = { frames := F, cells := mc, slots := ms, locals := L }
theorem zK.move {D : va_G} {dA : Nat → ClassId} {A B : Nat → Prop} {s U : State} {H : Heap} {locs : List Loc} (h : zK D dA A s) (hS : va_S A s.heap H locs) (hU : U.heap = H) (hW : s.WarmedH U.vm) (hAB : ∀ q, B q → A q) : zK D dA B U :=
  ⟨va_K.moved hW.alike h.1, fun t ty ht => ⟨arrOfT_moved hW.alike (h.2.1 t ty ht).1, va_RA.moved hW.alike (h.2.1 t ty ht).2⟩, h.2.2.move hS hU hW hAB⟩
