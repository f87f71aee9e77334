section
/-! ===== BEGIN words of one list among another's, by their places ===== -/
theorem goodIn_r {big : List Cond} (ws : List Cond) (ps : List Nat) (hp : ws = ps.filterMap (fun i => big[i]?)) (h : ws.all goodWord = true) : GoodIn big ws := by
  intro w hw
  have h1 := List.all_eq_true.mp h w hw
  rw [hp] at hw
  obtain ⟨i, -, hi⟩ := List.mem_filterMap.mp hw
  have hm : w ∈ big := by first | exact List.mem_of_getElem? hi | exact List.getElem?_mem hi
  exact ⟨hm, good_of_word h1⟩
theorem goodIn_app {big a b : List Cond} (ha : GoodIn big a) (hb : GoodIn big b) : GoodIn big (a ++ b) := fun w h => (List.mem_append.mp h).elim (ha w) (hb w)
theorem goodIn_ca {big a b : List Cond} {c : Cond} (ha : GoodIn big (c :: a)) (hb : GoodIn big b) : GoodIn big (c :: (a ++ b)) := fun w h => (List.mem_cons.mp h).elim (fun e => ha w (List.mem_cons.mpr (Or.inl e))) (fun h => (List.mem_append.mp h).elim (fun h => ha w (List.mem_cons.mpr (Or.inr h))) (hb w))
theorem goodIn_sub {big ws : List Cond} (hm : ∀ w ∈ ws, w ∈ big) (h : ws.all goodWord = true) : GoodIn big ws := fun w hw => ⟨hm w hw, good_of_word (List.all_eq_true.mp h w hw)⟩
/-! ===== END ===== -/

/-! ===== BEGIN exceptions that leave a method, and their catching by the caller (launches without stack traces) ===== -/
section VXA
/-! The laws vx_back, vx_callV, vx_callS, vx_callSW, vx_throw0, vx_throwS follow proofs of the library, with one case more: JvmDerived/Free/Laws.lean (Back.of_free), Shelf42/LK1.lean (callV, callS), Shelf/KitTraced.lean (throwNew0V, throwNewS). -/
-- (names of the library's Bundle are written out)
/-- where a method has thrown q: the class by its name, the cell, what was written, the world -/
def vx_T (XC : String → State → State → Prop) (st : State) (q : Addr) (t : State) (mc ms : Nat) (free : Addr → Prop) : Prop :=
  ∃ (E : String) (ce : Cell) (L : List Loc), XC E st t ∧ t.heap[q]? = some ce ∧ ce.vm = .none ∧ st.vm.findClass E = some ce.cls ∧ st.WarmedH t.vm ∧ st.sameButNew ({ t with vm := st.vm } : State) L mc ms ∧ ∀ z ∈ L, free z.base
def vx_Q (Qc : Array Value → State → Outcome → State → Prop) (XC : String → State → State → Prop) (mc ms : Nat) (free : Addr → Prop) : Array Value → State → Outcome → State → Prop := fun a st o t =>
  (Qc a st o t ∧ ∃ L, FrameEnd st o t L mc ms ∧ ∀ q ∈ L, free q.base) ∨ ∃ q, o = .threw q ∧ vx_T XC st q t mc ms free
/-- a callee that returns or throws -/
def vx_Met (l : Launch) (y : MethodName) (ws : List Cond) (rm : Room) (Pc : Array Value → State → Prop) (Qc : Array Value → State → Outcome → State → Prop) (XC : String → State → State → Prop) (mc ms : Nat) (free : Addr → Prop) : Prop :=
  MetFree l y (headSpec ws rm) Pc (fun _ _ _ _ _ => True) (vx_Q Qc XC mc ms free)
def vx_Post (XC : String → State → State → Prop) (mc ms : Nat) (free : Addr → Prop) : Pt → Array Value → Addr → Pt → Prop := fun A a q B =>
  ∃ (g : JFrame) (mk : MethodId) (t : State) (L : List Loc) (E : String) (ce : Cell), B.U.heap = t.heap ∧ B.U.vm = t.vm ∧ XC E (A.U.calling g mk a) t ∧ t.heap[q]? = some ce ∧ ce.vm = .none ∧ A.U.vm.findClass E = some ce.cls ∧ B.locs = A.locs ++ L ∧ (∀ z ∈ L, free z.base) ∧ B.cells = A.cells + mc ∧ B.slots = A.slots + ms
def vx_Back (l : Launch) (R : Room) (p : Program) (e : Env) (below : List Frame) (s : State) (sargs : Array Value) (y : MethodName) (len W9 : Nat)
    (Pre : Pt → Array Value → Prop) (Post : Pt → Array Value → Option Value → Pt → Prop) (PostX : Pt → Array Value → Addr → Pt → Prop) : Prop :=
  ∀ (m : MethodId) (meth : Method) (c : Code) (A : Pt) (g : JFrame) (ig : Instr) (mk : MethodId) (a : Array Value),
    Stand p l e R s m sargs below meth c A.U A.locs A.cells A.slots → g.method = m → g.locals.size = c.maxLocals → decode c.code g.pc = .ok (ig, len) →
    2 * g.monitorRoom + (g.stack.map fun v => v.category).sum ≤ W9 → A.U.methodNamed? y = some mk → Pre A a →
    (∃ (v : Option Value) (B : Pt), Stand p l e R s m sargs below meth c B.U B.locs B.cells B.slots ∧ Post A a v B ∧
      Steps p.tables e below (doInvoke e (A.U.setTop g) [] mk a).1 (B.U.setTop { g with pc := g.pc + len, stack := v.toList ++ g.stack })) ∨
    (∃ (q : Addr) (B : Pt), Stand p l e R s m sargs below meth c B.U B.locs B.cells B.slots ∧ PostX A a q B ∧
      Steps p.tables e below (doInvoke e (A.U.setTop g) [] mk a).1 ((B.U.setTop g).pushFrame (.throwing q)))
section Payer
variable {l : Launch} {R : Room} {p : Program} {e : Env} {below : List Frame} {s : State} {sargs : Array Value} {y : MethodName} {len W9 : Nat}
theorem vx_back {ws : List Cond} {rm : Room} {Pc : Array Value → State → Prop} {Qc : Array Value → State → Outcome → State → Prop} {XC : String → State → State → Prop} {mc ms : Nat} {free : Addr → Prop} {bytes : ByteArray} {maxL : Nat} {ret : Option FieldType}
    (hM : vx_Met l y ws rm Pc Qc XC mc ms free) (hblind : FrameBlind Pc) (hrc : rm.cells = mc) (hrs : rm.slots = ms)
    (hframes : rm.frames + 1 ≤ R.frames) (hlocals : W9 + (maxL + 11) + rm.locals ≤ R.locals)
    (hws : ∀ w ∈ ws, ∀ a' U, s.WarmedH U.vm → w.before a' U = true) (hcode : Cond.code y bytes maxL ret ∈ ws) (hinit : ∀ a' U, s.WarmedH U.vm → (Cond.initialized y.cls).before a' U = true) :
    vx_Back l R p e below s sargs y len W9 (PreOf R mc ms Pc) (PostOf Qc mc ms free) (vx_Post XC mc ms free) := by
  intro m meth c A g ig mk a X hg hsize hdg hW hn hp
  have h1 : (headSpec ws rm).pre.before a A.U = true := atoms_intro fun w hw => hws w hw _ _ X.warmed
  have h2 : (Cond.code y bytes maxL ret).before a A.U = true := hws _ hcode _ _ X.warmed
  have h3 : (Cond.initialized y.cls).before a A.U = true := hinit _ _ X.warmed
  have h4 : A.cells + (headSpec ws rm).room.cells ≤ R.cells := by rw [show (headSpec ws rm).room.cells = mc from hrc]; exact hp.1
  have h5 : A.slots + (headSpec ws rm).room.slots ≤ R.slots := by rw [show (headSpec ws rm).room.slots = ms from hrs]; exact hp.2.1
  have hPc : Pc a (A.U.calling g mk a) := hblind _ _ _ _ hp.2.2
  obtain ⟨U, Ls, c0, s0⟩ := A
  dsimp only [Pt.U, Pt.locs, Pt.cells, Pt.slots] at h1 h2 h3 h4 h5 X hn hPc ⊢
  obtain ⟨methY, cY, hmY, hcY, -, hlY, -, -, -, -⟩ := Cond.code_spec hn h2
  obtain ⟨kY, hkY, -⟩ := className_of_methodNamed hn
  have hinitY : kY.init = .initialized := Cond.initialized_spec (findClass_of_methodNamed hn) hkY h3
  have h : At U g.method c below := by rw [hg]; exact X.here
  have hlocals9 : W9 + (maxL + 11) + (headSpec ws rm).room.locals ≤ R.locals := hlocals
  have happ : (headSpec ws rm).appliesLoose y e.platform (U.calling g mk a) = true :=
    Spec.appliesLoose_calling (g := g) h hdg hn hkY hinitY
      (X.room_calling (g := g) (R' := (headSpec ws rm).room) hsize hmY hcY hframes (by rw [hlY]; omega) h4 h5) h1
  obtain ⟨mid, hmid⟩ := h.above
  have hfr : (U.setTop g).frames = (.java g :: mid) ++ below := by rw [State.frames_setTop' g h.top, hmid]; rfl
  obtain ⟨o, s₂, hsteps, -, hend, hq⟩ := Steps.callFree hM p X.admits X.cas X.clock (acts := []) hfr happ hPc trivial
  have hq' : vx_Q Qc XC mc ms free a (U.calling g mk a) o s₂ := hq
  rw [State.frames_setTop' g h.top] at hend
  obtain ⟨g₀, hg0⟩ := Option.isSome_iff_exists.mp h.top
  obtain ⟨r, hr⟩ := State.topJava?_eq_some.mp hg0
  have hr' : (({ U with heap := s₂.heap, slotsUsed := s₂.slotsUsed } : State).setVm s₂.vm).frames = .java g₀ :: r := hr
  rcases hq' with ⟨hqc, L, hfe, hL⟩ | ⟨q, rfl, E, ce, L, hx, hce, hcv, hcl, hW₂, hsm, hL⟩
  · obtain ⟨⟨v, rfl⟩, hW₂, e2, q2, q3, q4, q5, q6⟩ := id hfe
    have e3 : s₂ = ({ (U.calling g mk a).setFrames s₂.frames with heap := s₂.heap, slotsUsed := s₂.slotsUsed } : State).setVm s₂.vm := by
      have : s₂ = ({ s₂ with vm := (U.calling g mk a).vm } : State).setVm s₂.vm := rfl
      rw [e2] at this
      exact this
    obtain ⟨c₂, i₂, len₂, hc₂, hd₂, hf₂⟩ := hend
    have hW' : U.WarmedH s₂.vm := hW₂
    have hcc : c₂ = c := by
      have h1 : s₂.code? g.method = U.code? g.method := by
        rw [State.code?_eq, State.code?_eq, hW'.alike.method?]
      exact Option.some.inj (hc₂.symm.trans (h1.trans h.code))
    subst hcc
    have hlen : len₂ = len := by rw [hdg] at hd₂; cases hd₂; rfl
    subst hlen
    have hs₂ : s₂ = (({ U with heap := s₂.heap, slotsUsed := s₂.slotsUsed } : State).setVm s₂.vm).setTop { g with pc := g.pc + len₂, stack := v.toList ++ g.stack } := by
      refine e3.trans ?_
      rw [hf₂, State.calling_eq h.top, State.setFrames_setFrames, State.setTop_of_frames _ hr', hr]
      rfl
    have hsame : U.sameButNew ({ U with heap := s₂.heap, slotsUsed := s₂.slotsUsed } : State) L mc ms := by
      refine ⟨?_, q2, q3, q4, q5, q6⟩
      obtain ⟨t, ht, -⟩ := State.frames_cons hr
      show ({ U with heap := s₂.heap, slotsUsed := s₂.slotsUsed } : State) = { U.setFrames U.frames with heap := s₂.heap, slotsUsed := s₂.slotsUsed }
      rw [State.setFrames_self ht]
    subst hg
    refine Or.inl ⟨v, ⟨(({ U with heap := s₂.heap, slotsUsed := s₂.slotsUsed } : State).setVm s₂.vm), Ls ++ L, c0 + mc, s0 + ms⟩,
      ⟨X.admits, X.cas, X.clock, X.frames, X.room, X.hears, X.method, X.code, (X.here.setHeapUsed s₂.heap s₂.slotsUsed).setVm hW'.alike, X.tail, State.WarmedH.trans X.warmed hW', X.limits, X.bytes, X.same.trans (hsame.setVm s.vm)⟩,
      ⟨g, mk, s₂, L, rfl, rfl, hqc, rfl, hL, rfl, rfl⟩, ?_⟩
    show Steps p.tables e below _ ((({ U with heap := s₂.heap, slotsUsed := s₂.slotsUsed } : State).setVm s₂.vm).setTop { g with pc := g.pc + len₂, stack := v.toList ++ g.stack })
    rw [← hs₂]
    exact hsteps
  · obtain ⟨e2, q2, q3, q4, q5, q6⟩ := id hsm
    have e3 : s₂ = ({ (U.calling g mk a).setFrames s₂.frames with heap := s₂.heap, slotsUsed := s₂.slotsUsed } : State).setVm s₂.vm := by
      have : s₂ = ({ s₂ with vm := (U.calling g mk a).vm } : State).setVm s₂.vm := rfl
      rw [e2] at this
      exact this
    have hf₂ : s₂.frames = .throwing q :: .java g :: U.frames.tail := hend
    have hW' : U.WarmedH s₂.vm := hW₂
    have hs₂ : s₂ = ((({ U with heap := s₂.heap, slotsUsed := s₂.slotsUsed } : State).setVm s₂.vm).setTop g).pushFrame (.throwing q) := by
      refine e3.trans ?_
      rw [hf₂, State.calling_eq h.top, State.setFrames_setFrames, State.pushFrame, State.frames_setTop _ hr', State.setTop_of_frames _ hr', State.setFrames_setFrames, hr]
      rfl
    have hsame : U.sameButNew ({ U with heap := s₂.heap, slotsUsed := s₂.slotsUsed } : State) L mc ms := by
      refine ⟨?_, q2, q3, q4, q5, q6⟩
      obtain ⟨t, ht, -⟩ := State.frames_cons hr
      show ({ U with heap := s₂.heap, slotsUsed := s₂.slotsUsed } : State) = { U.setFrames U.frames with heap := s₂.heap, slotsUsed := s₂.slotsUsed }
      rw [State.setFrames_self ht]
    subst hg
    refine Or.inr ⟨q, ⟨(({ U with heap := s₂.heap, slotsUsed := s₂.slotsUsed } : State).setVm s₂.vm), Ls ++ L, c0 + mc, s0 + ms⟩,
      ⟨X.admits, X.cas, X.clock, X.frames, X.room, X.hears, X.method, X.code, (X.here.setHeapUsed s₂.heap s₂.slotsUsed).setVm hW'.alike, X.tail, State.WarmedH.trans X.warmed hW', X.limits, X.bytes, X.same.trans (hsame.setVm s.vm)⟩,
      ⟨g, mk, s₂, L, E, ce, rfl, rfl, hx, hce, hcv, hcl, rfl, hL, rfl, rfl⟩, ?_⟩
    show Steps p.tables e below _ (((({ U with heap := s₂.heap, slotsUsed := s₂.slotsUsed } : State).setVm s₂.vm).setTop g).pushFrame (.throwing q))
    rw [← hs₂]
    exact hsteps
end Payer
section Calls
variable {p : Program} {l : Launch} {e : Env} {R : Room} {s : State} {m : MethodId} {args : Array Value} {below : List Frame} {meth : Method} {c : Code} {T : State} {locs : List Loc} {cells slots : Nat}
theorem vx_callV (X : Stand p l e R s m args below meth c T locs cells slots) (hexec : p.tables.exec = Jvm.exec) {own C : String} {index : Nat} {y : MethodName} {bytes : ByteArray} {maxL : Nat} {ret : Option FieldType}
    (hown : s.vm.findClass own = some m.cls) (hlink : (Cond.methodLink own index y).before args s = true) (hinst : (Cond.instanceMethod y).before args s = true) (hsel : (Cond.selects C y y).before args s = true)
    (hcode : (Cond.code y bytes maxL ret).before args s = true) (hy : y.cls ≠ "java/lang/invoke/MethodHandle" ∧ y.cls ≠ "java/lang/invoke/VarHandle")
    {W9 : Nat} {Pre : Pt → Array Value → Prop} {Post : Pt → Array Value → Option Value → Pt → Prop} {PostX : Pt → Array Value → Addr → Pt → Prop} (hK : vx_Back l R p e below s args y 3 W9 Pre Post PostX)
    {b : Addr} {cellB : Cell} (hcell : T.heap[b]? = some cellB) (hobj : cellB.vm.isStatics = false) (hcls : s.vm.findClass C = some cellB.cls)
    {g : JFrame} (hg : g.method = m) (hsize : g.locals.size = c.maxLocals) {argsL rest : List Value} (hlen : ∀ sig, parseMethodDescriptor y.desc = some sig → argsL.length = sig.parameters.length)
    (hstack : g.stack = argsL.reverse ++ .ref b :: rest) (hW : 2 * g.monitorRoom + (rest.map fun v => v.category).sum ≤ W9) (hdg : decode c.code g.pc = .ok (.invokevirtual index, 3))
    (hpre : ∀ vm₁, s.WarmedH vm₁ → Pre ⟨T.setVm vm₁, locs, cells, slots⟩ (Value.ref b :: argsL).toArray) :
    (∃ (v : Option Value) (vm₁ : Vm) (B : Pt), s.WarmedH vm₁ ∧ Stand p l e R s m args below meth c B.U B.locs B.cells B.slots ∧ Post ⟨T.setVm vm₁, locs, cells, slots⟩ (Value.ref b :: argsL).toArray v B ∧
      ∀ target, Steps p.tables e below (B.U.setTop { g with pc := g.pc + 3, stack := v.toList ++ rest }) target → Steps p.tables e below (T.setTop g) target) ∨
    (∃ (q : Addr) (vm₁ : Vm) (B : Pt), s.WarmedH vm₁ ∧ Stand p l e R s m args below meth c B.U B.locs B.cells B.slots ∧ PostX ⟨T.setVm vm₁, locs, cells, slots⟩ (Value.ref b :: argsL).toArray q B ∧
      Steps p.tables e below (T.setTop g) ((B.U.setTop { g with stack := rest }).pushFrame (.throwing q))) := by
  obtain ⟨mk, methM, hnamed, hmethM, hstM, habM⟩ := Cond.instanceMethod_spec hinst
  obtain ⟨methM', cM, hmethM', -, -, -, -, -, -, hsigM⟩ := Cond.code_spec hnamed hcode
  cases hmethM.symm.trans hmethM'
  obtain ⟨c2, r2, m2, q1, q2, q3, q4, kP, hkP, hkPi⟩ := Cond.selects_spec hsel
  cases hcls.symm.trans q1
  cases (State.methodFound?_of_named hnamed hy).symm.trans q2
  cases hnamed.symm.trans q3
  have hselP : selectMethod e.platform s.vm cellB.cls mk = .method mk := by rw [Launch.admits_selectMethod X.admits]; exact q4
  obtain ⟨vm₁, X₁, hstep₁⟩ := X.invokevirtual hexec hown hlink hnamed hmethM hstM hkP hkPi hy (a := b) (cell := cellB) hcell
    (fun z h => by rw [h] at hobj; cases hobj) hselP hmethM habM hkP hkPi (g := g) hg (argsL := argsL) (rest := rest) (hlen _ hsigM) hstack hdg
  rcases hK m meth c ⟨T.setVm vm₁, locs, cells, slots⟩ { g with stack := rest } (.invokevirtual index) mk (Value.ref b :: argsL).toArray X₁ hg hsize hdg hW (X₁.named hnamed) (hpre vm₁ X₁.warmed) with ⟨v, B, X', hpost, hsteps⟩ | ⟨q, B, X', hpost, hsteps⟩
  · exact Or.inl ⟨v, vm₁, B, X₁.warmed, X', hpost, fun target h => hstep₁ _ fun acts => by rw [doInvoke_state]; exact hsteps.trans h⟩
  · exact Or.inr ⟨q, vm₁, B, X₁.warmed, X', hpost, hstep₁ _ fun acts => by rw [doInvoke_state]; exact hsteps⟩
theorem vx_callS (X : Stand p l e R s m args below meth c T locs cells slots) (hexec : p.tables.exec = Jvm.exec) {own : String} {index : Nat} {y : MethodName} {bytes : ByteArray} {maxL : Nat} {ret : Option FieldType}
    (hown : s.vm.findClass own = some m.cls) (hlink : (Cond.methodLink own index y).before args s = true) (hstat : (Cond.static y).before args s = true) (hinit : (Cond.initialized y.cls).before args s = true)
    (hcode : (Cond.code y bytes maxL ret).before args s = true) (hy : y.cls ≠ "java/lang/invoke/MethodHandle" ∧ y.cls ≠ "java/lang/invoke/VarHandle")
    {W9 : Nat} {Pre : Pt → Array Value → Prop} {Post : Pt → Array Value → Option Value → Pt → Prop} {PostX : Pt → Array Value → Addr → Pt → Prop} (hK : vx_Back l R p e below s args y 3 W9 Pre Post PostX)
    {g : JFrame} (hg : g.method = m) (hsize : g.locals.size = c.maxLocals) {argsL rest : List Value} (hlen : ∀ sig, parseMethodDescriptor y.desc = some sig → argsL.length = sig.parameters.length)
    (hstack : g.stack = argsL.reverse ++ rest) (hW : 2 * g.monitorRoom + (rest.map fun v => v.category).sum ≤ W9) (hdg : decode c.code g.pc = .ok (.invokestatic index, 3))
    (hpre : ∀ vm₁, s.WarmedH vm₁ → Pre ⟨T.setVm vm₁, locs, cells, slots⟩ argsL.toArray) :
    (∃ (v : Option Value) (vm₁ : Vm) (B : Pt), s.WarmedH vm₁ ∧ Stand p l e R s m args below meth c B.U B.locs B.cells B.slots ∧ Post ⟨T.setVm vm₁, locs, cells, slots⟩ argsL.toArray v B ∧
      ∀ target, Steps p.tables e below (B.U.setTop { g with pc := g.pc + 3, stack := v.toList ++ rest }) target → Steps p.tables e below (T.setTop g) target) ∨
    (∃ (q : Addr) (vm₁ : Vm) (B : Pt), s.WarmedH vm₁ ∧ Stand p l e R s m args below meth c B.U B.locs B.cells B.slots ∧ PostX ⟨T.setVm vm₁, locs, cells, slots⟩ argsL.toArray q B ∧
      Steps p.tables e below (T.setTop g) ((B.U.setTop { g with stack := rest }).pushFrame (.throwing q))) := by
  obtain ⟨mk, hnamed⟩ := Cond.code_named hcode
  obtain ⟨methM, cM, hmethM, -, -, -, -, -, -, hsigM⟩ := Cond.code_spec hnamed hcode
  have hstatic : methM.isStatic = true := Cond.static_spec hnamed hmethM hstat
  obtain ⟨kP, hkP, -⟩ := className_of_methodNamed hnamed
  have hinitP : kP.init = .initialized := Cond.initialized_spec (findClass_of_methodNamed hnamed) hkP hinit
  obtain ⟨vm₁, X₁, hstep₁⟩ := X.invokestatic hexec hown hlink hnamed hmethM hstatic hkP hinitP hy (g := g) hg (argsL := argsL) (rest := rest) (hlen _ hsigM) hstack hdg
  rcases hK m meth c ⟨T.setVm vm₁, locs, cells, slots⟩ { g with stack := rest } (.invokestatic index) mk argsL.toArray X₁ hg hsize hdg hW (X₁.named hnamed) (hpre vm₁ X₁.warmed) with ⟨v, B, X', hpost, hsteps⟩ | ⟨q, B, X', hpost, hsteps⟩
  · exact Or.inl ⟨v, vm₁, B, X₁.warmed, X', hpost, fun target h => hstep₁ _ fun acts => by rw [doInvoke_state]; exact hsteps.trans h⟩
  · exact Or.inr ⟨q, vm₁, B, X₁.warmed, X', hpost, hstep₁ _ fun acts => by rw [doInvoke_state]; exact hsteps⟩
end Calls
theorem vx_cls {s : State} {T : State} {vm₁ : Vm} {E : String} {k : ClassId} (hW : s.WarmedH vm₁) (h : (T.setVm vm₁).vm.findClass E = some k) : s.vm.findClass E = some k := by
  have h1 : vm₁.findClass E = some k := h
  rw [hW.alike.findClass] at h1
  exact h1
/-- the method's frame g, with q thrown over it -/
def vx_W (p : Program) (l : Launch) (e : Env) (R : Room) (s : State) (m : MethodId) (args : Array Value) (below : List Frame) (meth : Method) (c : Code) (H : Heap) (locs : List Loc) (cells slots : Nat) (Q : State → Prop) (g : JFrame) (q : Addr) : Prop :=
  ∀ T : State, T.heap = H → Stand p l e R s m args below meth c T locs cells slots → ∃ t, Steps p.tables e below ((T.setTop g).pushFrame (.throwing q)) t ∧ Q t
def vx_Run (p : Program) (l : Launch) (e : Env) (R : Room) (s : State) (m : MethodId) (args : Array Value) (below : List Frame) (meth : Method) (c : Code) (H : Heap) (locs : List Loc) (cells slots mc ms : Nat) (g : JFrame) (rest : List Value) (Qa : State → Outcome → State → Prop) (XC : String → State → State → Prop) (free : Addr → Prop) : Prop :=
  ∀ T : State, T.heap = H → Stand p l e R s m args below meth c T locs cells slots →
    (∃ (v : Option Value) (st₀ t T' : State) (L : List Loc), st₀.heap = H ∧ Stand p l e R s m args below meth c T' (locs ++ L) (cells + mc) (slots + ms) ∧ (∀ q ∈ L, free q.base) ∧ T'.heap = t.heap ∧ T'.vm = t.vm ∧ Qa st₀ (.returned v) t ∧
      Goes p e below T g T' { g with pc := g.pc + 3, stack := v.toList ++ rest }) ∨
    (∃ (q : Addr) (st₀ t T' : State) (L : List Loc) (E : String) (ce : Cell), st₀.heap = H ∧ Stand p l e R s m args below meth c T' (locs ++ L) (cells + mc) (slots + ms) ∧ (∀ z ∈ L, free z.base) ∧ T'.heap = t.heap ∧ T'.vm = t.vm ∧ XC E st₀ t ∧ t.heap[q]? = some ce ∧ ce.vm = .none ∧ s.vm.findClass E = some ce.cls ∧
      Steps p.tables e below (T.setTop g) ((T'.setTop { g with stack := rest }).pushFrame (.throwing q)))
def vx_X {S : Type} (px : S → Prop) (B : String → S → State → Prop) (A : Nat → Prop) : String → State → State → Prop := fun E st t => ∃ u : S, px u ∧ B E u t ∧ va_F A st t
section Runs
variable {p : Program} {l : Launch} {e : Env} {R : Room} {s : State} {m : MethodId} {args : Array Value} {below : List Frame} {meth : Method} {c : Code} {H : Heap} {locs : List Loc} {cells slots : Nat}
variable {y : MethodName} {bytes cc : ByteArray} {maxL nL mc ms n index : Nat} {ret : Option FieldType} {ws : List Cond} {rm : Room} {Pc : Array Value → State → Prop} {Qc : Array Value → State → Outcome → State → Prop} {XC : String → State → State → Prop} {free : Addr → Prop} {Ts : List Cond} {own C : String} {b : Addr} {As rest : List Value} {g : JFrame}
theorem vx_callBack (cb : CallB R s args own index y bytes maxL ret ws rm mc ms n) (hM : vx_Met l y ws rm Pc Qc XC mc ms free) (hbl : FrameBlind Pc) : vx_Back l R p e below s args y 3 8 (PreOf R mc ms Pc) (PostOf Qc mc ms free) (vx_Post XC mc ms free) := by
  obtain ⟨hrc, hrs, hfr, hlo, hws, hcw, -, hini, -⟩ := cb
  exact vx_back (bytes := bytes) (maxL := maxL) (ret := ret) hM hbl hrc hrs hfr hlo hws hcw (fun a' U hW => word_at hW (Or.inl (by first | rfl | simp [Cond.onTables, Cond.keeps, Cond.steady])) hini)
theorem vx_runV (S : CallFix p m c cc nL s args Ts own) (hM : vx_Met l y ws rm Pc Qc XC mc ms free) (cw : CallW R s args own C index y bytes maxL ret ws rm mc ms n) (hp : PreV s H C b Pc As)
    (hg : g.method = m) (hn : As.length = n) (hsize : g.locals.size = nL) (hstack : g.stack = As.reverse ++ .ref b :: rest) (hW : 2 * g.monitorRoom + (rest.map fun v => v.category).sum ≤ 8) (hdg : decode cc g.pc = .ok (.invokevirtual index, 3)) (hf : cells + mc ≤ R.cells ∧ slots + ms ≤ R.slots) :
    vx_Run p l e R s m args below meth c H locs cells slots mc ms g rest (Qc (Value.ref b :: As).toArray) XC free := by
  have hK : vx_Back l R p e below s args y 3 8 (PreOf R mc ms Pc) (PostOf Qc mc ms free) (vx_Post XC mc ms free) := vx_callBack cw.1 hM hp.1
  obtain ⟨⟨-, -, -, -, -, -, hcode, -, hy, hlen, hl⟩, hin, hse⟩ := cw
  obtain ⟨hx, hb, hml, ho, -⟩ := S
  obtain ⟨-, ⟨cellB, hcB, hoB, hclB⟩, hPc⟩ := hp
  intro T hT X
  rcases vx_callV X hx (C := C) (bytes := bytes) (maxL := maxL) (ret := ret) ho hl hin hse hcode hy hK (by rw [hT]; exact hcB) hoB hclB hg (hsize.trans hml.symm) (argsL := As) (rest := rest) (fun sig h => hn.trans (hlen sig h)) hstack hW (by rw [hb]; exact hdg)
    (fun vm₁ hW₁ => ⟨hf.1, hf.2, hPc (T.setVm vm₁) hT hW₁⟩) with ⟨v, vm₁, ⟨U', l2, c2, s2⟩, hW₁, X', ⟨g', mk, t, L, e1, e2, hq, h1, hL, h2, h3⟩, st⟩ | ⟨q, vm₁, ⟨U', l2, c2, s2⟩, hW₁, X', ⟨g', mk, t, L, E, ce, e1, e2, hq, hce, hcv, hcl, h1, hL, h2, h3⟩, st⟩
  · dsimp only [Pt.U, Pt.locs, Pt.cells, Pt.slots] at X' e1 e2 h1 h2 h3 st
    subst h1; subst h2; subst h3
    exact Or.inl ⟨v, (T.setVm vm₁).calling g' mk (Value.ref b :: As).toArray, t, U', L, hT, X', hL, e1, e2, hq, st⟩
  · dsimp only [Pt.U, Pt.locs, Pt.cells, Pt.slots] at X' e1 e2 h1 h2 h3 st hcl
    subst h1; subst h2; subst h3
    exact Or.inr ⟨q, (T.setVm vm₁).calling g' mk (Value.ref b :: As).toArray, t, U', L, E, ce, hT, X', hL, e1, e2, hq, hce, hcv, vx_cls hW₁ hcl, st⟩
theorem vx_runS (S : CallFix p m c cc nL s args Ts own) (hM : vx_Met l y ws rm Pc Qc XC mc ms free) (cw : CallB R s args own index y bytes maxL ret ws rm mc ms n ∧ (Cond.static y).before args s = true) (hp : PreS s H Pc As)
    (hg : g.method = m) (hn : As.length = n) (hsize : g.locals.size = nL) (hstack : g.stack = As.reverse ++ rest) (hW : 2 * g.monitorRoom + (rest.map fun v => v.category).sum ≤ 8) (hdg : decode cc g.pc = .ok (.invokestatic index, 3)) (hf : cells + mc ≤ R.cells ∧ slots + ms ≤ R.slots) :
    vx_Run p l e R s m args below meth c H locs cells slots mc ms g rest (Qc As.toArray) XC free := by
  have hK : vx_Back l R p e below s args y 3 8 (PreOf R mc ms Pc) (PostOf Qc mc ms free) (vx_Post XC mc ms free) := vx_callBack cw.1 hM hp.1
  obtain ⟨⟨-, -, -, -, -, -, hcode, hini, hy, hlen, hl⟩, hstt⟩ := cw
  obtain ⟨hx, hb, hml, ho, -⟩ := S
  intro T hT X
  rcases vx_callS X hx (bytes := bytes) (maxL := maxL) (ret := ret) ho hl hstt hini hcode hy hK hg (hsize.trans hml.symm) (argsL := As) (rest := rest) (fun sig h => hn.trans (hlen sig h)) hstack hW (by rw [hb]; exact hdg)
    (fun vm₁ hW₁ => ⟨hf.1, hf.2, hp.2 (T.setVm vm₁) hT hW₁⟩) with ⟨v, vm₁, ⟨U', l2, c2, s2⟩, hW₁, X', ⟨g', mk, t, L, e1, e2, hq, h1, hL, h2, h3⟩, st⟩ | ⟨q, vm₁, ⟨U', l2, c2, s2⟩, hW₁, X', ⟨g', mk, t, L, E, ce, e1, e2, hq, hce, hcv, hcl, h1, hL, h2, h3⟩, st⟩
  · dsimp only [Pt.U, Pt.locs, Pt.cells, Pt.slots] at X' e1 e2 h1 h2 h3 st
    subst h1; subst h2; subst h3
    exact Or.inl ⟨v, (T.setVm vm₁).calling g' mk As.toArray, t, U', L, hT, X', hL, e1, e2, hq, st⟩
  · dsimp only [Pt.U, Pt.locs, Pt.cells, Pt.slots] at X' e1 e2 h1 h2 h3 st hcl
    subst h1; subst h2; subst h3
    exact Or.inr ⟨q, (T.setVm vm₁).calling g' mk As.toArray, t, U', L, E, ce, hT, X', hL, e1, e2, hq, hce, hcv, vx_cls hW₁ hcl, st⟩
end Runs
section Rows
variable {p : Program} {l : Launch} {e : Env} {R : Room} {s : State} {m : MethodId} {args : Array Value} {below : List Frame} {meth : Method} {c : Code} {H : Heap} {locs : List Loc} {cells slots : Nat} {Q : State → Prop}
variable {mc ms : Nat} {free : Addr → Prop} {A0 A1 : Nat → Prop} {H0 : Heap} {a : Array Value} {pc : Nat} {ls : Array Slot} {st0 rest : List Value}
theorem vx_keep {st₀ t T' : State} {L : List Loc} (h0 : st₀.heap = H) (e1 : T'.heap = t.heap) (hS : va_S A0 H0 H locs) (hA : ∀ q, q < H.size → A1 q → A0 q) (hf : ∀ q, free q → A0 q) (hL : ∀ q ∈ L, free q.base) (hF : va_F A1 st₀ t) :
    H.size ≤ T'.heap.size ∧ (∀ q : Nat, q < H.size → ¬ A1 q → T'.heap[q]? = H[q]?) ∧ va_S A0 H0 T'.heap (locs ++ L) := by
  obtain ⟨hz, hk⟩ := hF
  rw [h0] at hz hk
  exact ⟨by rw [e1]; exact hz, fun q h1 h2 => by rw [e1]; exact hk q h1 h2,
    ⟨Nat.le_trans hS.1 (by rw [e1]; exact hz), fun q h1 h2 => by rw [e1, hk q (Nat.lt_of_lt_of_le h1 hS.1) (fun z => h2 (hA q (Nat.lt_of_lt_of_le h1 hS.1) z))]; exact hS.2.1 q h1 h2, fun q hq => by
      rcases List.mem_append.mp hq with h | h
      · exact hS.2.2 q h
      · exact hf _ (hL q h)⟩⟩
theorem vx_calli {S SX : Type} {post : Int32 → S → Prop} {px : SX → Prop} {B : S → State → Prop} {BX : String → SX → State → Prop} {AX : Nat → Prop} (hr : vx_Run p l e R s m args below meth c H locs cells slots mc ms (F0 m pc ls st0) rest (va_Qi post B A1 a) (vx_X px BX AX) free) (hS : va_S A0 H0 H locs) (hA : ∀ q, q < H.size → A1 q → A0 q) (hf : ∀ q, free q → A0 q) (hAX : ∀ q, q < H.size → AX q → A0 q)
    (kx : ∀ (E : String) (ce : Cell) (q9 : Addr) (u : SX) (t : State) (H1 : Heap) (locs1 : List Loc), t.heap = H1 → s.vm.Alike t.vm → px u → BX E u t → H.size ≤ H1.size → (∀ q : Nat, q < H.size → ¬ AX q → H1[q]? = H[q]?) → va_S A0 H0 H1 locs1 → H1[q9]? = some ce → ce.vm = .none → s.vm.findClass E = some ce.cls → vx_W p l e R s m args below meth c H1 locs1 (cells + mc) (slots + ms) Q (F0 m pc ls rest) q9)
    (kk : ∀ (r : Int32) (u : S) (t : State) (H1 : Heap) (locs1 : List Loc), t.heap = H1 → s.vm.Alike t.vm → post r u → B u t → H.size ≤ H1.size → (∀ q : Nat, q < H.size → ¬ A1 q → H1[q]? = H[q]?) → va_S A0 H0 H1 locs1 → W p l e R s m args below meth c H1 locs1 (cells + mc) (slots + ms) Q (F0 m (pc + 3) ls (.int r :: rest))) : W p l e R s m args below meth c H locs cells slots Q (F0 m pc ls st0) := by
  intro T hT X
  rcases hr T hT X with ⟨v, st₀, t, T', L, h0, X', hL, e1, e2, ⟨⟨r, u, hv, hp, hb⟩, hF⟩, st⟩ | ⟨q, st₀, t, T', L, E, ce, h0, X', hL, e1, e2, ⟨u, hp, hb, hF⟩, hce, hcv, hcl, st⟩
  · cases hv
    obtain ⟨k1, k2, k3⟩ := vx_keep h0 e1 hS hA hf hL hF
    obtain ⟨t2, a1, b1⟩ := kk r u t T'.heap (locs ++ L) e1.symm (by rw [← e2]; exact X'.warmed.alike) hp hb k1 k2 k3 T' rfl X'
    exact ⟨t2, st t2 a1, b1⟩
  · obtain ⟨k1, k2, k3⟩ := vx_keep h0 e1 hS hAX hf hL hF
    obtain ⟨t2, a1, b1⟩ := kx E ce q u t T'.heap (locs ++ L) e1.symm (by rw [← e2]; exact X'.warmed.alike) hp hb k1 k2 k3 (by rw [e1]; exact hce) hcv hcl T' rfl X'
    exact ⟨t2, st.trans a1, b1⟩
theorem vx_calll {S SX : Type} {post : Int64 → S → Prop} {px : SX → Prop} {B : S → State → Prop} {BX : String → SX → State → Prop} {AX : Nat → Prop} (hr : vx_Run p l e R s m args below meth c H locs cells slots mc ms (F0 m pc ls st0) rest (va_Ql post B A1 a) (vx_X px BX AX) free) (hS : va_S A0 H0 H locs) (hA : ∀ q, q < H.size → A1 q → A0 q) (hf : ∀ q, free q → A0 q) (hAX : ∀ q, q < H.size → AX q → A0 q)
    (kx : ∀ (E : String) (ce : Cell) (q9 : Addr) (u : SX) (t : State) (H1 : Heap) (locs1 : List Loc), t.heap = H1 → s.vm.Alike t.vm → px u → BX E u t → H.size ≤ H1.size → (∀ q : Nat, q < H.size → ¬ AX q → H1[q]? = H[q]?) → va_S A0 H0 H1 locs1 → H1[q9]? = some ce → ce.vm = .none → s.vm.findClass E = some ce.cls → vx_W p l e R s m args below meth c H1 locs1 (cells + mc) (slots + ms) Q (F0 m pc ls rest) q9)
    (kk : ∀ (r : Int64) (u : S) (t : State) (H1 : Heap) (locs1 : List Loc), t.heap = H1 → s.vm.Alike t.vm → post r u → B u t → H.size ≤ H1.size → (∀ q : Nat, q < H.size → ¬ A1 q → H1[q]? = H[q]?) → va_S A0 H0 H1 locs1 → W p l e R s m args below meth c H1 locs1 (cells + mc) (slots + ms) Q (F0 m (pc + 3) ls (.long r :: rest))) : W p l e R s m args below meth c H locs cells slots Q (F0 m pc ls st0) := by
  intro T hT X
  rcases hr T hT X with ⟨v, st₀, t, T', L, h0, X', hL, e1, e2, ⟨⟨r, u, hv, hp, hb⟩, hF⟩, st⟩ | ⟨q, st₀, t, T', L, E, ce, h0, X', hL, e1, e2, ⟨u, hp, hb, hF⟩, hce, hcv, hcl, st⟩
  · cases hv
    obtain ⟨k1, k2, k3⟩ := vx_keep h0 e1 hS hA hf hL hF
    obtain ⟨t2, a1, b1⟩ := kk r u t T'.heap (locs ++ L) e1.symm (by rw [← e2]; exact X'.warmed.alike) hp hb k1 k2 k3 T' rfl X'
    exact ⟨t2, st t2 a1, b1⟩
  · obtain ⟨k1, k2, k3⟩ := vx_keep h0 e1 hS hAX hf hL hF
    obtain ⟨t2, a1, b1⟩ := kx E ce q u t T'.heap (locs ++ L) e1.symm (by rw [← e2]; exact X'.warmed.alike) hp hb k1 k2 k3 (by rw [e1]; exact hce) hcv hcl T' rfl X'
    exact ⟨t2, st.trans a1, b1⟩
theorem vx_callf {S SX : Type} {post : UInt32 → S → Prop} {px : SX → Prop} {B : S → State → Prop} {BX : String → SX → State → Prop} {AX : Nat → Prop} (hr : vx_Run p l e R s m args below meth c H locs cells slots mc ms (F0 m pc ls st0) rest (va_Qf post B A1 a) (vx_X px BX AX) free) (hS : va_S A0 H0 H locs) (hA : ∀ q, q < H.size → A1 q → A0 q) (hf : ∀ q, free q → A0 q) (hAX : ∀ q, q < H.size → AX q → A0 q)
    (kx : ∀ (E : String) (ce : Cell) (q9 : Addr) (u : SX) (t : State) (H1 : Heap) (locs1 : List Loc), t.heap = H1 → s.vm.Alike t.vm → px u → BX E u t → H.size ≤ H1.size → (∀ q : Nat, q < H.size → ¬ AX q → H1[q]? = H[q]?) → va_S A0 H0 H1 locs1 → H1[q9]? = some ce → ce.vm = .none → s.vm.findClass E = some ce.cls → vx_W p l e R s m args below meth c H1 locs1 (cells + mc) (slots + ms) Q (F0 m pc ls rest) q9)
    (kk : ∀ (r : UInt32) (u : S) (t : State) (H1 : Heap) (locs1 : List Loc), t.heap = H1 → s.vm.Alike t.vm → post r u → B u t → H.size ≤ H1.size → (∀ q : Nat, q < H.size → ¬ A1 q → H1[q]? = H[q]?) → va_S A0 H0 H1 locs1 → W p l e R s m args below meth c H1 locs1 (cells + mc) (slots + ms) Q (F0 m (pc + 3) ls (.float r :: rest))) : W p l e R s m args below meth c H locs cells slots Q (F0 m pc ls st0) := by
  intro T hT X
  rcases hr T hT X with ⟨v, st₀, t, T', L, h0, X', hL, e1, e2, ⟨⟨r, u, hv, hp, hb⟩, hF⟩, st⟩ | ⟨q, st₀, t, T', L, E, ce, h0, X', hL, e1, e2, ⟨u, hp, hb, hF⟩, hce, hcv, hcl, st⟩
  · cases hv
    obtain ⟨k1, k2, k3⟩ := vx_keep h0 e1 hS hA hf hL hF
    obtain ⟨t2, a1, b1⟩ := kk r u t T'.heap (locs ++ L) e1.symm (by rw [← e2]; exact X'.warmed.alike) hp hb k1 k2 k3 T' rfl X'
    exact ⟨t2, st t2 a1, b1⟩
  · obtain ⟨k1, k2, k3⟩ := vx_keep h0 e1 hS hAX hf hL hF
    obtain ⟨t2, a1, b1⟩ := kx E ce q u t T'.heap (locs ++ L) e1.symm (by rw [← e2]; exact X'.warmed.alike) hp hb k1 k2 k3 (by rw [e1]; exact hce) hcv hcl T' rfl X'
    exact ⟨t2, st.trans a1, b1⟩
theorem vx_calld {S SX : Type} {post : UInt64 → S → Prop} {px : SX → Prop} {B : S → State → Prop} {BX : String → SX → State → Prop} {AX : Nat → Prop} (hr : vx_Run p l e R s m args below meth c H locs cells slots mc ms (F0 m pc ls st0) rest (va_Qd post B A1 a) (vx_X px BX AX) free) (hS : va_S A0 H0 H locs) (hA : ∀ q, q < H.size → A1 q → A0 q) (hf : ∀ q, free q → A0 q) (hAX : ∀ q, q < H.size → AX q → A0 q)
    (kx : ∀ (E : String) (ce : Cell) (q9 : Addr) (u : SX) (t : State) (H1 : Heap) (locs1 : List Loc), t.heap = H1 → s.vm.Alike t.vm → px u → BX E u t → H.size ≤ H1.size → (∀ q : Nat, q < H.size → ¬ AX q → H1[q]? = H[q]?) → va_S A0 H0 H1 locs1 → H1[q9]? = some ce → ce.vm = .none → s.vm.findClass E = some ce.cls → vx_W p l e R s m args below meth c H1 locs1 (cells + mc) (slots + ms) Q (F0 m pc ls rest) q9)
    (kk : ∀ (r : UInt64) (u : S) (t : State) (H1 : Heap) (locs1 : List Loc), t.heap = H1 → s.vm.Alike t.vm → post r u → B u t → H.size ≤ H1.size → (∀ q : Nat, q < H.size → ¬ A1 q → H1[q]? = H[q]?) → va_S A0 H0 H1 locs1 → W p l e R s m args below meth c H1 locs1 (cells + mc) (slots + ms) Q (F0 m (pc + 3) ls (.double r :: rest))) : W p l e R s m args below meth c H locs cells slots Q (F0 m pc ls st0) := by
  intro T hT X
  rcases hr T hT X with ⟨v, st₀, t, T', L, h0, X', hL, e1, e2, ⟨⟨r, u, hv, hp, hb⟩, hF⟩, st⟩ | ⟨q, st₀, t, T', L, E, ce, h0, X', hL, e1, e2, ⟨u, hp, hb, hF⟩, hce, hcv, hcl, st⟩
  · cases hv
    obtain ⟨k1, k2, k3⟩ := vx_keep h0 e1 hS hA hf hL hF
    obtain ⟨t2, a1, b1⟩ := kk r u t T'.heap (locs ++ L) e1.symm (by rw [← e2]; exact X'.warmed.alike) hp hb k1 k2 k3 T' rfl X'
    exact ⟨t2, st t2 a1, b1⟩
  · obtain ⟨k1, k2, k3⟩ := vx_keep h0 e1 hS hAX hf hL hF
    obtain ⟨t2, a1, b1⟩ := kx E ce q u t T'.heap (locs ++ L) e1.symm (by rw [← e2]; exact X'.warmed.alike) hp hb k1 k2 k3 (by rw [e1]; exact hce) hcv hcl T' rfl X'
    exact ⟨t2, st.trans a1, b1⟩
theorem vx_callv {S SX : Type} {post : S → Prop} {px : SX → Prop} {B : S → State → Prop} {BX : String → SX → State → Prop} {AX : Nat → Prop} (hr : vx_Run p l e R s m args below meth c H locs cells slots mc ms (F0 m pc ls st0) rest (va_Qv post B A1 a) (vx_X px BX AX) free) (hS : va_S A0 H0 H locs) (hA : ∀ q, q < H.size → A1 q → A0 q) (hf : ∀ q, free q → A0 q) (hAX : ∀ q, q < H.size → AX q → A0 q)
    (kx : ∀ (E : String) (ce : Cell) (q9 : Addr) (u : SX) (t : State) (H1 : Heap) (locs1 : List Loc), t.heap = H1 → s.vm.Alike t.vm → px u → BX E u t → H.size ≤ H1.size → (∀ q : Nat, q < H.size → ¬ AX q → H1[q]? = H[q]?) → va_S A0 H0 H1 locs1 → H1[q9]? = some ce → ce.vm = .none → s.vm.findClass E = some ce.cls → vx_W p l e R s m args below meth c H1 locs1 (cells + mc) (slots + ms) Q (F0 m pc ls rest) q9)
    (kk : ∀ (u : S) (t : State) (H1 : Heap) (locs1 : List Loc), t.heap = H1 → s.vm.Alike t.vm → post u → B u t → H.size ≤ H1.size → (∀ q : Nat, q < H.size → ¬ A1 q → H1[q]? = H[q]?) → va_S A0 H0 H1 locs1 → W p l e R s m args below meth c H1 locs1 (cells + mc) (slots + ms) Q (F0 m (pc + 3) ls (rest))) : W p l e R s m args below meth c H locs cells slots Q (F0 m pc ls st0) := by
  intro T hT X
  rcases hr T hT X with ⟨v, st₀, t, T', L, h0, X', hL, e1, e2, ⟨⟨u, hv, hp, hb⟩, hF⟩, st⟩ | ⟨q, st₀, t, T', L, E, ce, h0, X', hL, e1, e2, ⟨u, hp, hb, hF⟩, hce, hcv, hcl, st⟩
  · cases hv
    obtain ⟨k1, k2, k3⟩ := vx_keep h0 e1 hS hA hf hL hF
    obtain ⟨t2, a1, b1⟩ := kk u t T'.heap (locs ++ L) e1.symm (by rw [← e2]; exact X'.warmed.alike) hp hb k1 k2 k3 T' rfl X'
    exact ⟨t2, st t2 a1, b1⟩
  · obtain ⟨k1, k2, k3⟩ := vx_keep h0 e1 hS hAX hf hL hF
    obtain ⟨t2, a1, b1⟩ := kx E ce q u t T'.heap (locs ++ L) e1.symm (by rw [← e2]; exact X'.warmed.alike) hp hb k1 k2 k3 (by rw [e1]; exact hce) hcv hcl T' rfl X'
    exact ⟨t2, st.trans a1, b1⟩
/-- caught by the row x of this method's table; the rows ahead don't take it -/
theorem vx_catch {own name : String} {E : String} {ce : Cell} {q : Addr} (hown : s.vm.findClass own = some m.cls) (pre : List ExceptionTableEntry) (x : ExceptionTableEntry) (suf : List ExceptionTableEntry) (hsplit : c.exceptionTable.toList = pre ++ x :: suf)
    (hpass : ∀ z ∈ pre, covers z pc = false ∨ (z.catchType ≠ 0 ∧ ∃ nm : String, (Cond.classLink own z.catchType nm).before args s = true ∧ va_Nc E nm s)) (hx : covers x pc = true) (h0 : x.catchType ≠ 0)
    (hlink : (Cond.classLink own x.catchType name).before args s = true) (hcast : (Cond.castable E name).before args s = true) (hcell : H[q]? = some ce) (hv : ce.vm = .none) (hcl : s.vm.findClass E = some ce.cls)
    (kk : W p l e R s m args below meth c H locs cells slots Q (F0 m x.handlerPc ls [.ref q])) : vx_W p l e R s m args below meth c H locs cells slots Q (F0 m pc ls rest) q := by
  intro T hT X
  have hpl : e.platform.magicAccessors = ({} : Platform).magicAccessors := by rw [X.admits.platform]
  obtain ⟨c3, c4, hc3, hc4, hasg⟩ := Cond.castable_spec hcast
  cases Option.some.inj (hc3.symm.trans hcl)
  obtain ⟨c5, hc5, hcl5⟩ := Cond.classLink_spec hown hlink e.platform hpl
  cases Option.some.inj (hc4.symm.trans hc5)
  obtain ⟨vm', X', st⟩ := X.thenCaughtThrough q (g := F0 m pc ls rest) rfl (Steps.refl _) (by rw [hT]; exact hcell) (by rw [hv]; rfl) (by obtain ⟨k9, h9, -⟩ := Vm.findClass_spec hcl; exact ⟨k9, h9⟩) pre x suf hsplit
    (fun z hz => by
      rcases hpass z hz with h | ⟨hz0, nm, hl1, hn1⟩
      · exact Or.inl h
      · obtain ⟨c6, hc6, hcl6⟩ := Cond.classLink_spec hown hl1 e.platform hpl
        obtain ⟨a8, b8, h1, h2, h3⟩ := hn1
        cases Option.some.inj (h1.symm.trans hcl)
        cases Option.some.inj (h2.symm.trans hc6)
        exact Or.inr ⟨hz0, _, hcl6, h3⟩) hx (Or.inr ⟨h0, c4, hcl5, hasg⟩)
  obtain ⟨t, a1, b1⟩ := kk (T.setVm vm') hT X'
  exact ⟨t, st.trans a1, b1⟩
end Rows
section Ends
variable {p : Program} {l : Launch} {e : Env} {R : Room} {s : State} {m : MethodId} {args : Array Value} {below : List Frame} {meth : Method} {c : Code} {H : Heap} {locs : List Loc} {cells slots : Nat} {Q : State → Prop}
variable {mc ms : Nat} {free : Addr → Prop} {A0 A1 : Nat → Prop} {H0 : Heap} {a : Array Value} {ls : Array Slot} {st0 rest : List Value}
variable {Qc : Array Value → State → Outcome → State → Prop} {XC : String → State → State → Prop}
/-- what a body that may throw owes at its end -/
def vx_MQ (below : List Frame) (Qc : Array Value → State → Outcome → State → Prop) (XC : String → State → State → Prop) (a : Array Value) (s : State) (mc ms : Nat) (free : Addr → Prop) : State → Prop := fun t =>
  ∃ o, t.status = .running ∧ Ended t below o ∧ vx_Q Qc XC mc ms free a s o t
theorem vx_ret {g : JFrame} {mc ms : Nat} (k : W p l e R s m args below meth c H locs cells slots (MQ below Qc args s mc ms free) g) : W p l e R s m args below meth c H locs cells slots (vx_MQ below Qc XC args s mc ms free) g := by
  intro T hT X
  obtain ⟨t, a1, o, b1, b2, b3, b4⟩ := k T hT X
  exact ⟨t, a1, o, b1, b2, Or.inl ⟨b3, b4⟩⟩
/-- not caught here: it goes on to the caller -/
theorem vx_widen {g : JFrame} {q : Addr} {k n : Nat} (h1 : cells ≤ k) (h2 : slots ≤ n) (kk : vx_W p l e R s m args below meth c H locs k n Q g q) : vx_W p l e R s m args below meth c H locs cells slots Q g q := fun T hT X => kk T hT (stand_widen X h1 h2)
theorem vx_out {pc : Nat} {E : String} {ce : Cell} {q : Addr} {mc ms : Nat} (hout : ∀ x ∈ c.exceptionTable.toList, covers x pc = false) (hlocks : meth.locks = false) (hcell : H[q]? = some ce) (hv : ce.vm = .none) (hcl : s.vm.findClass E = some ce.cls)
    (hx : ∀ t : State, t.heap = H → s.vm.Alike t.vm → XC E s t) (hf : ∀ z ∈ locs, free z.base) (hc : cells ≤ mc) (hs : slots ≤ ms) :
    vx_W p l e R s m args below meth c H locs cells slots (vx_MQ below Qc XC args s mc ms free) (F0 m pc ls rest) q := by
  intro T hT X
  obtain ⟨st1, hrun, hend, hW, hsm⟩ := X.leaveThrown q (g := F0 m pc ls rest) rfl rfl rfl hout hlocks
  have hcell9 : (T.setFrames (.throwing q :: below)).heap[q]? = some ce := by
    show T.heap[q]? = some ce
    rw [hT]; exact hcell
  exact ⟨_, st1, .threw q, hrun, hend, Or.inr ⟨q, rfl, E, ce, locs, hx _ hT hW.alike, hcell9, hv, hcl, hW, hsm.mono hc hs, hf⟩⟩
theorem vx_frame {U : State} {k n : Nat} (h : s.sameButNew ({ U with vm := s.vm } : State) locs k n) : s.heap.size ≤ U.heap.size ∧ ∀ q : Nat, q < s.heap.size → (∀ z ∈ locs, z.base ≠ q) → U.heap[q]? = s.heap[q]? := by
  obtain ⟨-, h2, -, -, -, h6⟩ := h
  refine ⟨h2, fun q hq hz => ?_⟩
  obtain ⟨c9, e1, e2, e3, e4⟩ := h6 q _ (Array.getElem?_eq_getElem hq)
  have hs : c9.slots = (s.heap[q]).slots := Array.ext_getElem? fun i => e4 i fun hm => hz _ hm rfl
  have h9 : c9 = s.heap[q] := by
    rw [hs] at e2
    exact e2
  have e5 : U.heap[q]? = some c9 := e1
  rw [e5, h9, Array.getElem?_eq_getElem hq]
/-- the words of a throw but the four that speak of the heap -/
def vx_no (w : Cond) : Bool := decide (w ≠ .isRef (.static Bundle.tN "UNASSIGNED_STACK" Bundle.steD)) && decide (w ≠ .isRef (.static Bundle.tN "SUPPRESSED_SENTINEL" Bundle.listD)) && decide (w ≠ .laysStatic Bundle.tN "UNASSIGNED_STACK" Bundle.steD) && decide (w ≠ .laysStatic Bundle.tN "SUPPRESSED_SENTINEL" Bundle.listD)
def vx_at0 (own : String) (ic : Nat) (X : String) (names : List String) : List Cond := (Bundle.ownAtoms0 own ic X names).filter vx_no
def vx_atS (own : String) (ic : Nat) (X : String) (names : List String) : List Cond := (Bundle.ownAtoms own ic X names).filter vx_no
/-- a word that the tables alone decide, or a good one -/
def vx_ot (w : Cond) : Bool := w.onTables || goodWord w
theorem vx_ot_at {args a' : Array Value} {s U : State} {w : Cond} (hW : s.WarmedH U.vm) (hvm : s.vm = U.vm) (hg : vx_ot w = true) (h : w.before args s = true) : w.before a' U = true := by
  simp only [vx_ot, Bool.or_eq_true] at hg
  rcases hg with hg | hg
  · exact va_tabs hg hvm h
  · exact word_at hW (good_of_word hg) h
/-- a list's words: the good ones out of the method's own list, the others by premises of their own -/
theorem vx_hat {args : Array Value} {s : State} {L B : List Cond} (h1 : ∀ w ∈ L.filter goodWord, w.before args s = true) (h2 : ∀ w ∈ L.filter (fun w => !goodWord w), w ∈ B) (h3 : ∀ w ∈ B, w.before args s = true) : ∀ w ∈ L, w.before args s = true := by
  intro w hw
  by_cases g : goodWord w = true
  · exact h1 w (List.mem_filter.mpr ⟨hw, g⟩)
  · refine h3 w (h2 w (List.mem_filter.mpr ⟨hw, ?_⟩))
    show (!goodWord w) = true
    cases hgw : goodWord w
    · rfl
    · exact absurd hgw g
theorem vx_c {args : Array Value} {s : State} {w : Cond} {B : List Cond} (h : w.before args s = true) (t : ∀ w ∈ B, w.before args s = true) : ∀ w' ∈ w :: B, w'.before args s = true := fun w' h' => (List.mem_cons.mp h').elim (fun e => by rw [e]; exact h) (t w')
theorem vx_n {args : Array Value} {s : State} : ∀ w ∈ ([] : List Cond), w.before args s = true := fun _ h => nomatch h
theorem vx_own {args : Array Value} {s : State} {L : List Cond} (h1 : ∀ w ∈ L.filter vx_no, w.before args s = true)
    (hU : (Cond.isRef (.static Bundle.tN "UNASSIGNED_STACK" Bundle.steD)).before args s = true) (hN : (Cond.isRef (.static Bundle.tN "SUPPRESSED_SENTINEL" Bundle.listD)).before args s = true)
    (lU : (Cond.laysStatic Bundle.tN "UNASSIGNED_STACK" Bundle.steD).before args s = true) (lN : (Cond.laysStatic Bundle.tN "SUPPRESSED_SENTINEL" Bundle.listD).before args s = true) : ∀ w ∈ L, w.before args s = true := by
  intro w hw
  by_cases e1 : w = .isRef (.static Bundle.tN "UNASSIGNED_STACK" Bundle.steD)
  · rw [e1]; exact hU
  · by_cases e2 : w = .isRef (.static Bundle.tN "SUPPRESSED_SENTINEL" Bundle.listD)
    · rw [e2]; exact hN
    · by_cases e3 : w = .laysStatic Bundle.tN "UNASSIGNED_STACK" Bundle.steD
      · rw [e3]; exact lU
      · by_cases e4 : w = .laysStatic Bundle.tN "SUPPRESSED_SENTINEL" Bundle.listD
        · rw [e4]; exact lN
        · exact h1 w (List.mem_filter.mpr ⟨hw, by unfold vx_no; rw [decide_eq_true e1, decide_eq_true e2, decide_eq_true e3, decide_eq_true e4]; rfl⟩)
/-- where a static field lies, its class's statics cell in H -/
def vx_L (C n d : String) (A : Nat → Prop) (U : State) (H : Heap) : Prop := ∃ (c : ClassId) (k : Class) (i : Nat) (f : Field) (a : Nat) (cell : Cell), U.vm.findClass C = some c ∧ U.fieldFound? C n d = some (c, k, i, f) ∧ f.isStatic = true ∧ k.statics = some a ∧ H[a]? = some cell ∧ cell.vm.isStatics = true ∧ cell.cls = c ∧ f.slot < cell.slots.size ∧ k.staticTypes[f.slot]? = some f.type ∧ ¬ A a
theorem vx_L.moved {C n d : String} {A : Nat → Prop} {u U : State} {H : Heap} (hvm : u.vm.Alike U.vm) (h : vx_L C n d A u H) : vx_L C n d A U H := by
  obtain ⟨c, k, i, f, a, cell, h1, h2, h3, h4, h5, h6, h7, h8, h9, h10⟩ := h
  obtain ⟨k', hi', he⟩ := State.fieldFound?_setVm hvm h2
  exact ⟨c, k', i, f, a, cell, by rw [hvm.findClass]; exact h1, hi', h3, by rw [he]; exact h4, h5, h6, h7, h8, by rw [he]; exact h9, h10⟩
theorem vx_L.kept {C n d : String} {A : Nat → Prop} {U : State} {H H1 : Heap} (h : vx_L C n d A U H) (hq : ∀ a : Nat, a < H.size → ¬ A a → H1[a]? = H[a]?) : vx_L C n d A U H1 := by
  obtain ⟨c, k, i, f, a, cell, h1, h2, h3, h4, h5, h6, h7, h8, h9, h10⟩ := h
  exact ⟨c, k, i, f, a, cell, h1, h2, h3, h4, by rw [hq a (Array.getElem?_eq_some_iff.mp h5).1 h10]; exact h5, h6, h7, h8, h9, h10⟩
theorem vx_L.narrow {C n d : String} {A B : Nat → Prop} {U : State} {H : Heap} (h : vx_L C n d A U H) (hAB : ∀ q, B q → A q) : vx_L C n d B U H := by
  obtain ⟨c, k, i, f, a, cell, h1, h2, h3, h4, h5, h6, h7, h8, h9, h10⟩ := h
  exact ⟨c, k, i, f, a, cell, h1, h2, h3, h4, h5, h6, h7, h8, h9, fun z => h10 (hAB _ z)⟩
theorem vx_L.word {C n d : String} {A : Nat → Prop} {s : State} {args : Array Value} (h : vx_L C n d A s s.heap) : (Cond.laysStatic C n d).before args s = true := by
  obtain ⟨c, k, i, f, a, cell, h1, h2, h3, h4, h5, h6, h7, h8, h9, -⟩ := h
  show (Cond.laysStatic C n d).holds args s none s [] = true
  exact Cond.laysStatic_of h1 h2 h3 h4 h5 h6 h7 h8 h9
/-- .. and what it holds: null or some reference -/
def vx_Zq (C n d : String) (A : Nat → Prop) (U : State) (H : Heap) : Prop := va_Zq C n d A U H ∧ vx_L C n d A U H
theorem vx_Zq.moved {C n d : String} {A : Nat → Prop} {u U : State} {H : Heap} (hvm : u.vm.Alike U.vm) (h : vx_Zq C n d A u H) : vx_Zq C n d A U H := ⟨va_Zq.moved hvm h.1, vx_L.moved hvm h.2⟩
theorem vx_Zq.kept {C n d : String} {A : Nat → Prop} {U : State} {H H1 : Heap} (h : vx_Zq C n d A U H) (hq : ∀ a : Nat, a < H.size → ¬ A a → H1[a]? = H[a]?) : vx_Zq C n d A U H1 := ⟨va_Zq.kept h.1 hq, vx_L.kept h.2 hq⟩
theorem vx_Zq.narrow {C n d : String} {A B : Nat → Prop} {U : State} {H : Heap} (h : vx_Zq C n d A U H) (hAB : ∀ q, B q → A q) : vx_Zq C n d B U H := ⟨va_Zq.narrow h.1 hAB, vx_L.narrow h.2 hAB⟩
theorem vx_Zqof {args : Array Value} {s : State} {C n d : String} {A : Nat → Prop} (hl : (Cond.laysStatic C n d).before args s = true) (hini : (Cond.initialized C).before args s = true) (h : (Cond.isRef (.static C n d)).before args s = true) (hA : ∀ a : Nat, a < s.heap.size → ¬ A a) : vx_Zq C n d A s s.heap := by
  refine ⟨va_Zqof hl hini h hA, ?_⟩
  obtain ⟨c, k, i, f, a, cell, h1, h2, h3, h4, h5, h6, h7, h8, h9⟩ := Cond.laysStatic_spec hl
  exact ⟨c, k, i, f, a, cell, h1, h2, h3, h4, h5, h6, h7, h8, h9, hA a (Array.getElem?_eq_some_iff.mp h5).1⟩
theorem vx_isRef {C n d : String} {v : Value} {A : Nat → Prop} {s : State} {args : Array Value} (h : va_Z C n d v A s s.heap) (hv : v.isRef = true) : (Cond.isRef (.static C n d)).before args s = true := by
  obtain ⟨cf, kf, fi, f, a, cell, h1, h2, h3, h4, h5, h6, h7, -⟩ := h
  have he : (Term.static C n d).eval args s none [] s = some v := by
    simp [Term.eval, State.fieldNamed?, h1, h2, h4, h5, h6, h7]
  simp only [Cond.before, Cond.holds, Cond.value, he]
  cases v <;> simp_all [Value.isRef]
theorem vx_isRefq {C n d : String} {A : Nat → Prop} {s : State} {args : Array Value} (h : va_Zq C n d A s s.heap) : (Cond.isRef (.static C n d)).before args s = true := by
  rcases h with h | ⟨t, h⟩
  · exact vx_isRef h rfl
  · exact vx_isRef h rfl
/-- the same frame, seen from here: as if the method were called anew in this heap -/
theorem vx_rebase {T : State} (X : Stand p l e R s m args below meth c T locs cells slots) {R' : Room} (hf : R'.frames ≤ R.frames) (hl : R'.locals ≤ R.locals) (hc : cells + R'.cells ≤ R.cells) (hs : slots + R'.slots ≤ R.slots) :
    Stand p l e R' ((T.setVm s.vm).setFrames (.invoking m args :: below)) m args below meth c T [] 0 0 := by
  have htop : (T.setVm s.vm).topJava?.isSome := X.here.top
  have hF : ((T.setVm s.vm).setFrames (.invoking m args :: below)).frames = .invoking m args :: below := State.frames_setFrames _ (State.cur_lt_of_top htop)
  obtain ⟨g₀, hg0⟩ := Option.isSome_iff_exists.mp htop
  obtain ⟨r, hr⟩ := State.topJava?_eq_some.mp hg0
  have hl9 : e.platform.stackLimits (T.setVm s.vm).me = e.platform.stackLimits s.me := X.limits
  have hb9 : (T.setVm s.vm).me.stackBytes = s.me.stackBytes := X.bytes
  refine ⟨X.admits, X.cas, X.clock, hF, ?_, X.hears, X.method, X.code, X.here, X.tail, X.warmed, ?_, ?_, ?_⟩
  · have h := X.room
    have hU : ((T.setVm s.vm).setFrames (.invoking m args :: below)).localsInUse = s.localsInUse := by
      rw [State.localsInUse_invoking hF (meth := meth) (c := c) X.method X.code, State.localsInUse_invoking X.frames X.method X.code]
    simp only [State.hasRoom, Bool.and_eq_true, decide_eq_true_eq] at h ⊢
    obtain ⟨⟨⟨⟨h1, h2, h3, h4, h5, h6⟩, h7⟩, h8⟩, h9⟩ := h
    rw [X.frames, List.length_cons] at h2 h3
    have q1 := X.heapSize
    have q2 := X.used
    simp only [hF, hU, List.length_cons, State.stackLimits_setFrames, State.stackBytes_setFrames, hl9, hb9]
    refine ⟨⟨⟨⟨by omega, by omega, by omega, by omega, by omega, h6⟩, ?_⟩, ?_⟩, X.book⟩
    · show T.heap.size + R'.cells ≤ e.platform.maxCells
      omega
    · show T.slotsUsed + R'.slots ≤ e.platform.maxSlots
      omega
  · rw [State.stackLimits_setFrames]; rfl
  · rw [State.stackBytes_setFrames]; rfl
  · refine ⟨?_, Nat.le_refl _, Nat.le_refl _, ?_, ?_, fun a c9 h9 => ⟨c9, h9, rfl, rfl, fun _ _ => rfl⟩⟩
    · obtain ⟨t, ht, -⟩ := State.frames_cons hr
      show T.setVm s.vm = { ((T.setVm s.vm).setFrames (.invoking m args :: below)).setFrames (T.setVm s.vm).frames with heap := T.heap, slotsUsed := T.slotsUsed }
      rw [State.setFrames_setFrames, State.setFrames_self ht]
      rfl
    · show T.slotsUsed = T.slotsUsed + ((T.heap.toList.drop T.heap.size).map (·.slots.size)).sum
      rw [List.drop_eq_nil_of_le (Nat.le_of_eq Array.length_toList)]
      rfl
    · show ((T.heap.toList.drop T.heap.size).map (·.slots.size)).sum ≤ 0
      rw [List.drop_eq_nil_of_le (Nat.le_of_eq Array.length_toList)]
      exact Nat.le_refl _
/-- 'throw new E()': new; dup; invokespecial; athrow -/
theorem vx_throw0 {cc : ByteArray} {pc : Nat} (hexec : p.tables.exec = Jvm.exec) (hb : c.code = cc) (hl : l.stackTraces = false) {own cls : String} {names : List String} {ik ic mc ms : Nat} {A : Nat → Prop}
    (hown : s.vm.findClass own = some m.cls) (hcls : Bundle.fit cls = true) (hnames : ∀ n ∈ names, Bundle.fit n = true)
    (hk : (Cond.classLink own ik cls).before args s = true) (hini : (Cond.initialized cls).before args s = true) (hat : ∀ w ∈ vx_at0 own ic cls names, w.before args s = true)
    (hgood : ∀ w ∈ Cond.classLink own ik cls :: Cond.initialized cls :: vx_at0 own ic cls names, vx_ot w = true)
    (hU : vx_Zq Bundle.tN "UNASSIGNED_STACK" Bundle.steD A s s.heap) (hN : vx_Zq Bundle.tN "SUPPRESSED_SENTINEL" Bundle.listD A s s.heap) (hS : va_S A s.heap H locs) (hsize : ls.size = c.maxLocals)
    (d0 : decode cc pc = .ok (.new ik, 3)) (d3 : decode cc (pc + 3) = .ok (.dup, 1)) (d4 : decode cc (pc + 4) = .ok (.invokespecial ic, 3)) (d7 : decode cc (pc + 7) = .ok (.athrow, 1))
    (hout : ∀ x ∈ c.exceptionTable.toList, covers x (pc + 7) = false)
    (hRframes : names.length + 3 < R.frames) (hRlocals : (rest.map fun v => v.category).sum + (13 * (names.length + 1) + 42) ≤ R.locals) (hRcells : cells + 1 ≤ R.cells) (hRslots : slots + 6 ≤ R.slots) (hlocks : meth.locks = false)
    (hx : ∀ t : State, s.vm.Alike t.vm → H.size ≤ t.heap.size → (∀ q : Nat, q < H.size → t.heap[q]? = H[q]?) → XC cls s t)
    (hf : ∀ z ∈ locs, free z.base) (hc : cells + 1 ≤ mc) (hs : slots + 6 ≤ ms) :
    W p l e R s m args below meth c H locs cells slots (vx_MQ below Qc XC args s mc ms free) (F0 m pc ls rest) := by
  intro T hT X
  have htr : e.platform.stackTraces = false := (show e.platform.stackTraces = l.stackTraces by rw [X.admits.platform]).trans hl
  have Y := vx_rebase X (R' := { frames := R.frames, locals := R.locals, cells := 1, slots := 6 }) (Nat.le_refl _) (Nat.le_refl _) hRcells hRslots
  obtain ⟨s', hA⟩ : ∃ z, z = (T.setVm s.vm).setFrames (.invoking m args :: below) := ⟨_, rfl⟩
  rw [← hA] at Y
  have hvm : s'.vm = s.vm := by rw [hA]; rfl
  have hhp : s'.heap = H := by rw [hA]; exact hT
  have hW0 : s.WarmedH s'.vm := by rw [hvm]; exact State.WarmedH.refl s
  have hat' : ∀ w ∈ vx_at0 own ic cls names, w.before args s' = true := fun w hw => vx_ot_at hW0 hvm.symm (hgood w (List.mem_cons_of_mem _ (List.mem_cons_of_mem _ hw))) (hat w hw)
  have hk' : (Cond.classLink own ik cls).before args s' = true := vx_ot_at hW0 hvm.symm (hgood _ List.mem_cons_self) hk
  have hini' : (Cond.initialized cls).before args s' = true := vx_ot_at hW0 hvm.symm (hgood _ (List.mem_cons_of_mem _ List.mem_cons_self)) hini
  have hU' : vx_Zq Bundle.tN "UNASSIGNED_STACK" Bundle.steD A s' s'.heap := by rw [hhp]; exact vx_Zq.moved hW0.alike (hU.kept hS.2.1)
  have hN' : vx_Zq Bundle.tN "SUPPRESSED_SENTINEL" Bundle.listD A s' s'.heap := by rw [hhp]; exact vx_Zq.moved hW0.alike (hN.kept hS.2.1)
  have h : ∀ w ∈ Bundle.ownAtoms0 own ic cls names, w.before args s' = true := vx_own hat' (vx_isRefq hU'.1) (vx_isRefq hN'.1) hU'.2.word hN'.2.word
  have hown' : s'.vm.findClass own = some m.cls := by rw [hvm]; exact hown
  have hins : (Cond.instantiable cls 6).before args s' = true := h _ (by simp [Bundle.ownAtoms0])
  obtain ⟨vm₁, cX, kX, hfX, hkX, -, -, X₁, st1⟩ := Y.newCold hexec (own := own) (C := cls) (index := ik) (n := 6) hown' hk' hins hini'
    (g := F0 m pc ls rest) rfl (by rw [hb]; exact d0) (Nat.le_refl _) (Nat.le_refl _)
  generalize hT1 : (T.setVm vm₁).pushCell { cls := cX, slots := kX.instanceTypes.map defaultValue, vm := .none } = T1 at X₁ st1
  have hcat : (Value.ref T.heap.size).category = 1 := rfl
  have hcellA : T1.heap[T.heap.size]? = some (freshCell cX kX) := by rw [← hT1]; exact State.heap_pushCell_size _ _
  have d3' : decode c.code (pc + 3) = .ok (.dup, 1) := by rw [hb]; exact d3
  obtain ⟨U, hsteps, hrun, hend, hW, hsame, ce, hce, hO⟩ := X₁.ctorThrow0 hexec htr (own := own) (cls := cls) (names := names) (ic := ic) hown' hcls hnames h (fun x hx => nomatch hx) hfX hkX hcellA (by rw [hhp, hT]; exact Nat.le_refl _)
    (g := { method := m, pc := pc + 4, locals := ls, stack := .ref T.heap.size :: .ref T.heap.size :: rest, locked := none }) rfl hsize rfl rfl (rest := rest) rfl
    (by rw [hb]; exact d4) (by rw [hb]; exact d7) hout hRframes (by simp only [List.map_cons, List.sum_cons, hcat]; omega) hlocks
  obtain ⟨f1, f2⟩ := vx_frame hsame
  rw [hhp] at f1 f2
  have hWs : s.WarmedH U.vm := State.WarmedH.trans hW0 hW
  have hcl : s.vm.findClass cls = some ce.cls := by
    have h9 := hO.cls
    rw [hvm] at h9
    exact h9
  have hall : s.sameButNew ({ U with vm := s.vm } : State) locs mc ms := by
    subst hA
    obtain ⟨e1, e2⟩ := hsame
    rw [State.setFrames_setFrames] at e1
    have h2 : (T.setVm s.vm).sameButNew ({ U with vm := s.vm } : State) [] (0 + 1) (0 + 6) := ⟨e1, e2⟩
    have h3 := X.same.trans h2
    rw [List.append_nil] at h3
    exact h3.mono hc hs
  refine ⟨U, ?_, .threw T.heap.size, hrun, hend, Or.inr ⟨T.heap.size, rfl, cls, ce, locs, hx U hWs.alike f1 (fun q hq => f2 q hq (fun z hz => nomatch hz)), hce, hO.vm, hcl, hWs, hall, hf⟩⟩
  refine st1 _ ?_
  show Steps p.tables e below (T1.setTop { method := m, pc := pc + 3, locals := ls, stack := .ref T.heap.size :: rest, locked := none }) _
  jvm_step X₁.here [X₁.here.top, hexec, d3', Value.category]
  exact hsteps
/-- 'throw new E("text")': new; dup; ldc; invokespecial; athrow -/
theorem vx_throwS {cc : ByteArray} {pc : Nat} (hexec : p.tables.exec = Jvm.exec) (hb : c.code = cc) (hl : l.stackTraces = false) {own cls text : String} {names : List String} {ik is ic mc ms sa : Nat} {A : Nat → Prop}
    (hown : s.vm.findClass own = some m.cls) (hcls : Bundle.fit cls = true) (hnames : ∀ n ∈ names, Bundle.fit n = true)
    (hk : (Cond.classLink own ik cls).before args s = true) (hini : (Cond.initialized cls).before args s = true) (hstr : vk_R own is text sa s) (hat : ∀ w ∈ vx_atS own ic cls names, w.before args s = true)
    (hgood : ∀ w ∈ Cond.classLink own ik cls :: Cond.initialized cls :: vx_atS own ic cls names, vx_ot w = true)
    (hU : vx_Zq Bundle.tN "UNASSIGNED_STACK" Bundle.steD A s s.heap) (hN : vx_Zq Bundle.tN "SUPPRESSED_SENTINEL" Bundle.listD A s s.heap) (hS : va_S A s.heap H locs) (hsize : ls.size = c.maxLocals)
    (d0 : decode cc pc = .ok (.new ik, 3)) (d3 : decode cc (pc + 3) = .ok (.dup, 1)) (d4 : decode cc (pc + 4) = .ok (.ldc is, 2)) (d6 : decode cc (pc + 6) = .ok (.invokespecial ic, 3)) (d9 : decode cc (pc + 9) = .ok (.athrow, 1))
    (hout : ∀ x ∈ c.exceptionTable.toList, covers x (pc + 9) = false)
    (hRframes : names.length + 3 < R.frames) (hRlocals : (rest.map fun v => v.category).sum + (13 * (names.length + 1) + 43) ≤ R.locals) (hRcells : cells + 1 ≤ R.cells) (hRslots : slots + 6 ≤ R.slots) (hlocks : meth.locks = false)
    (hx : ∀ t : State, s.vm.Alike t.vm → H.size ≤ t.heap.size → (∀ q : Nat, q < H.size → t.heap[q]? = H[q]?) → XC cls s t)
    (hf : ∀ z ∈ locs, free z.base) (hc : cells + 1 ≤ mc) (hs : slots + 6 ≤ ms) :
    W p l e R s m args below meth c H locs cells slots (vx_MQ below Qc XC args s mc ms free) (F0 m pc ls rest) := by
  intro T hT X
  have htr : e.platform.stackTraces = false := (show e.platform.stackTraces = l.stackTraces by rw [X.admits.platform]).trans hl
  have Y := vx_rebase X (R' := { frames := R.frames, locals := R.locals, cells := 1, slots := 6 }) (Nat.le_refl _) (Nat.le_refl _) hRcells hRslots
  obtain ⟨s', hA⟩ : ∃ z, z = (T.setVm s.vm).setFrames (.invoking m args :: below) := ⟨_, rfl⟩
  rw [← hA] at Y
  have hvm : s'.vm = s.vm := by rw [hA]; rfl
  have hhp : s'.heap = H := by rw [hA]; exact hT
  have hW0 : s.WarmedH s'.vm := by rw [hvm]; exact State.WarmedH.refl s
  have hat' : ∀ w ∈ vx_atS own ic cls names, w.before args s' = true := fun w hw => vx_ot_at hW0 hvm.symm (hgood w (List.mem_cons_of_mem _ (List.mem_cons_of_mem _ hw))) (hat w hw)
  have hk' : (Cond.classLink own ik cls).before args s' = true := vx_ot_at hW0 hvm.symm (hgood _ List.mem_cons_self) hk
  have hini' : (Cond.initialized cls).before args s' = true := vx_ot_at hW0 hvm.symm (hgood _ (List.mem_cons_of_mem _ List.mem_cons_self)) hini
  have hU' : vx_Zq Bundle.tN "UNASSIGNED_STACK" Bundle.steD A s' s'.heap := by rw [hhp]; exact vx_Zq.moved hW0.alike (hU.kept hS.2.1)
  have hN' : vx_Zq Bundle.tN "SUPPRESSED_SENTINEL" Bundle.listD A s' s'.heap := by rw [hhp]; exact vx_Zq.moved hW0.alike (hN.kept hS.2.1)
  have h : ∀ w ∈ Bundle.ownAtoms own ic cls names, w.before args s' = true := vx_own hat' (vx_isRefq hU'.1) (vx_isRefq hN'.1) hU'.2.word hN'.2.word
  have hown' : s'.vm.findClass own = some m.cls := by rw [hvm]; exact hown
  have hins : (Cond.instantiable cls 6).before args s' = true := h _ (by simp [Bundle.ownAtoms])
  obtain ⟨vm₁, cX, kX, hfX, hkX, -, -, X₁, st1⟩ := Y.newCold hexec (own := own) (C := cls) (index := ik) (n := 6) hown' hk' hins hini'
    (g := F0 m pc ls rest) rfl (by rw [hb]; exact d0) (Nat.le_refl _) (Nat.le_refl _)
  generalize hT1 : (T.setVm vm₁).pushCell { cls := cX, slots := kX.instanceTypes.map defaultValue, vm := .none } = T1 at X₁ st1
  have hcat : (Value.ref T.heap.size).category = 1 := rfl
  have hcellA : T1.heap[T.heap.size]? = some (freshCell cX kX) := by rw [← hT1]; exact State.heap_pushCell_size _ _
  have d3' : decode c.code (pc + 3) = .ok (.dup, 1) := by rw [hb]; exact d3
  have d4' : decode c.code (pc + 4) = .ok (.ldc is, 2) := by rw [hb]; exact d4
  have hstr' : vk_R own is text sa s' := vk_R.warm hW0 hstr
  obtain ⟨U, hsteps, hrun, hend, hW, hsame, ce, hce, hO⟩ := X₁.ctorThrowS hexec htr (own := own) (cls := cls) (names := names) (ic := ic) hown' hcls hnames h (fun x hx => nomatch hx) hfX hkX hcellA (by rw [hhp, hT]; exact Nat.le_refl _) (msg := .ref sa) rfl
    (g := { method := m, pc := pc + 6, locals := ls, stack := .ref sa :: .ref T.heap.size :: .ref T.heap.size :: rest, locked := none }) rfl hsize rfl rfl (rest := rest) rfl
    (by rw [hb]; exact d6) (by rw [hb]; exact d9) hout hRframes (by simp only [List.map_cons, List.sum_cons, hcat]; omega) hlocks
  obtain ⟨f1, f2⟩ := vx_frame hsame
  rw [hhp] at f1 f2
  have hWs : s.WarmedH U.vm := State.WarmedH.trans hW0 hW
  have hcl : s.vm.findClass cls = some ce.cls := by
    have h9 := hO.cls
    rw [hvm] at h9
    exact h9
  have hall : s.sameButNew ({ U with vm := s.vm } : State) locs mc ms := by
    subst hA
    obtain ⟨e1, e2⟩ := hsame
    rw [State.setFrames_setFrames] at e1
    have h2 : (T.setVm s.vm).sameButNew ({ U with vm := s.vm } : State) [] (0 + 1) (0 + 6) := ⟨e1, e2⟩
    have h3 := X.same.trans h2
    rw [List.append_nil] at h3
    exact h3.mono hc hs
  refine ⟨U, ?_, .threw T.heap.size, hrun, hend, Or.inr ⟨T.heap.size, rfl, cls, ce, locs, hx U hWs.alike f1 (fun q hq => f2 q hq (fun z hz => nomatch hz)), hce, hO.vm, hcl, hWs, hall, hf⟩⟩
  refine st1 _ ?_
  show Steps p.tables e below (T1.setTop { method := m, pc := pc + 3, locals := ls, stack := .ref T.heap.size :: rest, locked := none }) _
  jvm_step X₁.here [X₁.here.top, hexec, d3', Value.category]
  exact X₁.ldcString hexec (own := own) (text := text) (index := is) (a := sa) hown' hstr'.1 hstr'.2
    (g := { method := m, pc := pc + 4, locals := ls, stack := .ref T.heap.size :: .ref T.heap.size :: rest, locked := none }) rfl d4' _ hsteps
/-- 'throw new E("text")', the text by a wide index -/
theorem vx_throwSW {cc : ByteArray} {pc : Nat} (hexec : p.tables.exec = Jvm.exec) (hb : c.code = cc) (hl : l.stackTraces = false) {own cls text : String} {names : List String} {ik is ic mc ms sa : Nat} {A : Nat → Prop}
    (hown : s.vm.findClass own = some m.cls) (hcls : Bundle.fit cls = true) (hnames : ∀ n ∈ names, Bundle.fit n = true)
    (hk : (Cond.classLink own ik cls).before args s = true) (hini : (Cond.initialized cls).before args s = true) (hstr : vk_R own is text sa s) (hat : ∀ w ∈ vx_atS own ic cls names, w.before args s = true)
    (hgood : ∀ w ∈ Cond.classLink own ik cls :: Cond.initialized cls :: vx_atS own ic cls names, vx_ot w = true)
    (hU : vx_Zq Bundle.tN "UNASSIGNED_STACK" Bundle.steD A s s.heap) (hN : vx_Zq Bundle.tN "SUPPRESSED_SENTINEL" Bundle.listD A s s.heap) (hS : va_S A s.heap H locs) (hsize : ls.size = c.maxLocals)
    (d0 : decode cc pc = .ok (.new ik, 3)) (d3 : decode cc (pc + 3) = .ok (.dup, 1)) (d4 : decode cc (pc + 4) = .ok (.ldc_w is, 3)) (d7 : decode cc (pc + 7) = .ok (.invokespecial ic, 3)) (d10 : decode cc (pc + 10) = .ok (.athrow, 1))
    (hout : ∀ x ∈ c.exceptionTable.toList, covers x (pc + 10) = false)
    (hRframes : names.length + 3 < R.frames) (hRlocals : (rest.map fun v => v.category).sum + (13 * (names.length + 1) + 43) ≤ R.locals) (hRcells : cells + 1 ≤ R.cells) (hRslots : slots + 6 ≤ R.slots) (hlocks : meth.locks = false)
    (hx : ∀ t : State, s.vm.Alike t.vm → H.size ≤ t.heap.size → (∀ q : Nat, q < H.size → t.heap[q]? = H[q]?) → XC cls s t)
    (hf : ∀ z ∈ locs, free z.base) (hc : cells + 1 ≤ mc) (hs : slots + 6 ≤ ms) :
    W p l e R s m args below meth c H locs cells slots (vx_MQ below Qc XC args s mc ms free) (F0 m pc ls rest) := by
  intro T hT X
  have htr : e.platform.stackTraces = false := (show e.platform.stackTraces = l.stackTraces by rw [X.admits.platform]).trans hl
  have Y := vx_rebase X (R' := { frames := R.frames, locals := R.locals, cells := 1, slots := 6 }) (Nat.le_refl _) (Nat.le_refl _) hRcells hRslots
  obtain ⟨s', hA⟩ : ∃ z, z = (T.setVm s.vm).setFrames (.invoking m args :: below) := ⟨_, rfl⟩
  rw [← hA] at Y
  have hvm : s'.vm = s.vm := by rw [hA]; rfl
  have hhp : s'.heap = H := by rw [hA]; exact hT
  have hW0 : s.WarmedH s'.vm := by rw [hvm]; exact State.WarmedH.refl s
  have hat' : ∀ w ∈ vx_atS own ic cls names, w.before args s' = true := fun w hw => vx_ot_at hW0 hvm.symm (hgood w (List.mem_cons_of_mem _ (List.mem_cons_of_mem _ hw))) (hat w hw)
  have hk' : (Cond.classLink own ik cls).before args s' = true := vx_ot_at hW0 hvm.symm (hgood _ List.mem_cons_self) hk
  have hini' : (Cond.initialized cls).before args s' = true := vx_ot_at hW0 hvm.symm (hgood _ (List.mem_cons_of_mem _ List.mem_cons_self)) hini
  have hU' : vx_Zq Bundle.tN "UNASSIGNED_STACK" Bundle.steD A s' s'.heap := by rw [hhp]; exact vx_Zq.moved hW0.alike (hU.kept hS.2.1)
  have hN' : vx_Zq Bundle.tN "SUPPRESSED_SENTINEL" Bundle.listD A s' s'.heap := by rw [hhp]; exact vx_Zq.moved hW0.alike (hN.kept hS.2.1)
  have h : ∀ w ∈ Bundle.ownAtoms own ic cls names, w.before args s' = true := vx_own hat' (vx_isRefq hU'.1) (vx_isRefq hN'.1) hU'.2.word hN'.2.word
  have hown' : s'.vm.findClass own = some m.cls := by rw [hvm]; exact hown
  have hins : (Cond.instantiable cls 6).before args s' = true := h _ (by simp [Bundle.ownAtoms])
  obtain ⟨vm₁, cX, kX, hfX, hkX, -, -, X₁, st1⟩ := Y.newCold hexec (own := own) (C := cls) (index := ik) (n := 6) hown' hk' hins hini'
    (g := F0 m pc ls rest) rfl (by rw [hb]; exact d0) (Nat.le_refl _) (Nat.le_refl _)
  generalize hT1 : (T.setVm vm₁).pushCell { cls := cX, slots := kX.instanceTypes.map defaultValue, vm := .none } = T1 at X₁ st1
  have hcat : (Value.ref T.heap.size).category = 1 := rfl
  have hcellA : T1.heap[T.heap.size]? = some (freshCell cX kX) := by rw [← hT1]; exact State.heap_pushCell_size _ _
  have d3' : decode c.code (pc + 3) = .ok (.dup, 1) := by rw [hb]; exact d3
  have d4' : decode c.code (pc + 4) = .ok (.ldc_w is, 3) := by rw [hb]; exact d4
  have hstr' : vk_R own is text sa s' := vk_R.warm hW0 hstr
  obtain ⟨U, hsteps, hrun, hend, hW, hsame, ce, hce, hO⟩ := X₁.ctorThrowS hexec htr (own := own) (cls := cls) (names := names) (ic := ic) hown' hcls hnames h (fun x hx => nomatch hx) hfX hkX hcellA (by rw [hhp, hT]; exact Nat.le_refl _) (msg := .ref sa) rfl
    (g := { method := m, pc := pc + 7, locals := ls, stack := .ref sa :: .ref T.heap.size :: .ref T.heap.size :: rest, locked := none }) rfl hsize rfl rfl (rest := rest) rfl
    (by rw [hb]; exact d7) (by rw [hb]; exact d10) hout hRframes (by simp only [List.map_cons, List.sum_cons, hcat]; omega) hlocks
  obtain ⟨f1, f2⟩ := vx_frame hsame
  rw [hhp] at f1 f2
  have hWs : s.WarmedH U.vm := State.WarmedH.trans hW0 hW
  have hcl : s.vm.findClass cls = some ce.cls := by
    have h9 := hO.cls
    rw [hvm] at h9
    exact h9
  have hall : s.sameButNew ({ U with vm := s.vm } : State) locs mc ms := by
    subst hA
    obtain ⟨e1, e2⟩ := hsame
    rw [State.setFrames_setFrames] at e1
    have h2 : (T.setVm s.vm).sameButNew ({ U with vm := s.vm } : State) [] (0 + 1) (0 + 6) := ⟨e1, e2⟩
    have h3 := X.same.trans h2
    rw [List.append_nil] at h3
    exact h3.mono hc hs
  refine ⟨U, ?_, .threw T.heap.size, hrun, hend, Or.inr ⟨T.heap.size, rfl, cls, ce, locs, hx U hWs.alike f1 (fun q hq => f2 q hq (fun z hz => nomatch hz)), hce, hO.vm, hcl, hWs, hall, hf⟩⟩
  refine st1 _ ?_
  show Steps p.tables e below (T1.setTop { method := m, pc := pc + 3, locals := ls, stack := .ref T.heap.size :: rest, locked := none }) _
  jvm_step X₁.here [X₁.here.top, hexec, d3', Value.category]
  exact X₁.ldcStringW hexec (own := own) (text := text) (index := is) (a := sa) hown' hstr'.1 hstr'.2
    (g := { method := m, pc := pc + 4, locals := ls, stack := .ref T.heap.size :: .ref T.heap.size :: rest, locked := none }) rfl d4' _ hsteps
end Ends
section Bodies
variable {l : Launch}
theorem vx_ofW {y : MethodName} {ws ws' : List Cond} {rm : Room} {Pc : Array Value → State → Prop} {Qc : Array Value → State → Outcome → State → Prop} {XC : String → State → State → Prop} {mc ms : Nat} {free : Addr → Prop} {cc : ByteArray} {maxL : Nat} {ret : Option FieldType}
    (hy : plainName y.cls = true) (hw : ws = Cond.code y cc maxL ret :: ws')
    (body : ∀ p e s m args below meth c s₁, BodyLoose p l y (headSpec ws rm) cc maxL ret e s m args below meth c s₁ → c.maxLocals = maxL → (∀ x ∈ c.exceptionTable.toList, False) → Pc args s →
      W p l e (headSpec ws rm).room s m args below meth c s.heap [] 0 0 (vx_MQ below Qc XC args s mc ms free) (entryFrame m args maxL)) : vx_Met l y ws rm Pc Qc XC mc ms free := by
  refine MetFree.of_bodyS (code := cc) (maxLocals := maxL) (ret := ret) hy ?_ ?_
  · intro args s m h hn
    obtain ⟨meth, c, h1, h2, h3, h4, h5, h6, -, -⟩ := Cond.code_spec hn (atoms_spec (ws := ws) h _ (by rw [hw]; exact List.mem_cons_self))
    exact ⟨meth, c, h1, h2, h3, h4, h5, h6⟩
  · intro p e s m args below meth c s₁ B hml hP _
    have hh0 : s₁.heap = s.heap := by rw [B.state]; rfl
    have ht : ∀ x ∈ c.exceptionTable.toList, False := by
      obtain ⟨meth9, c9, h1, h2, -, -, -, -, h7, -⟩ := Cond.code_spec B.named (atoms_spec (ws := ws) B.pre _ (by rw [hw]; exact List.mem_cons_self))
      cases Option.some.inj (h1.symm.trans B.method)
      cases Option.some.inj (h2.symm.trans (Stand.of_body B).code)
      intro x hx
      rw [Array.isEmpty_iff.mp h7] at hx
      cases hx
    obtain ⟨t, a1, o, b1, b2, b3⟩ := body p e s m args below meth c s₁ B hml ht hP s₁ hh0 (Stand.of_body B)
    exact ⟨t, o, a1, b1, b2, b3⟩
/-- the table of a body with handlers -/
theorem vx_table {p : Program} {x y : MethodName} {S : Spec} {cc bytes : ByteArray} {maxL maxL' : Nat} {ret ret' : Option FieldType} {e : Env} {s s₁ : State} {m : MethodId} {args : Array Value} {below : List Frame} {meth : Method} {c : Code} {hh : List (Nat × Nat × Nat × Nat)}
    (B : BodyLoose p l y S cc maxL ret e s m args below meth c s₁) (h : (Cond.codeWith y bytes maxL' ret' hh).before args s = true) : c.exceptionTable.toList = tableOf hh := by
  obtain ⟨m9, meth9, c9, hn9, h1, h2, -, -, h6, -⟩ := Cond.codeWith_spec h
  cases Option.some.inj (hn9.symm.trans B.named)
  cases Option.some.inj (h1.symm.trans B.method)
  cases Option.some.inj (h2.symm.trans (Stand.of_body B).code)
  rw [← h6, table_eq]
end Bodies
end VXA
/-! ===== END ===== -/
/-! ===== BEGIN a static call of a method with an exception table ===== -/
section VXS
variable {p : Program} {l : Launch} {e : Env} {R : Room} {s : State} {m : MethodId} {args : Array Value} {below : List Frame} {meth : Method} {c : Code} {T : State} {H : Heap} {locs : List Loc} {cells slots : Nat}
abbrev vx_CSW (R : Room) (s : State) (args : Array Value) (own : String) (index : Nat) (y : MethodName) (bytes : ByteArray) (maxL : Nat) (ret : Option FieldType) (hh : List (Nat × Nat × Nat × Nat)) (ws : List Cond) (rm : Room) (mc ms n : Nat) : Prop :=
  (rm.cells = mc ∧ rm.slots = ms ∧ rm.frames + 1 ≤ R.frames ∧ 8 + (maxL + 11) + rm.locals ≤ R.locals ∧ (∀ w ∈ ws, ∀ (a' : Array Value) (U : State), s.WarmedH U.vm → w.before a' U = true) ∧ Cond.codeWith y bytes maxL ret hh ∈ ws) ∧
  (Cond.codeWith y bytes maxL ret hh).before args s = true ∧ (Cond.initialized y.cls).before args s = true ∧ (y.cls ≠ "java/lang/invoke/MethodHandle" ∧ y.cls ≠ "java/lang/invoke/VarHandle") ∧
  (∀ sig, parseMethodDescriptor y.desc = some sig → n = sig.parameters.length) ∧ (Cond.methodLink own index y).before args s = true ∧ (Cond.static y).before args s = true
theorem vx_cwSW {own : String} {index maxL mc ms : Nat} {y : MethodName} {bytes : ByteArray} {ret : Option FieldType} {hh : List (Nat × Nat × Nat × Nat)} {Ts ws ws' : List Cond} {rm : Room} (n : Nat) (ht : ∀ w ∈ Ts, w.before args s = true) (hT : GoodIn Ts (va_wsS own index y ws)) (hw : ws = Cond.codeWith y bytes maxL ret hh :: ws') (hrc : rm.cells = mc) (hrs : rm.slots = ms)
    (hd : y.cls ≠ "java/lang/invoke/MethodHandle" ∧ y.cls ≠ "java/lang/invoke/VarHandle" ∧ (parseMethodDescriptor y.desc).map (fun d => d.parameters.length) = some n) (hR : rm.frames + 1 ≤ R.frames ∧ 8 + (maxL + 11) + rm.locals ≤ R.locals) :
    vx_CSW R s args own index y bytes maxL ret hh ws rm mc ms n := by
  have ok : ∀ w ∈ va_wsS own index y ws, w.before args s = true := fun w h => ht w (hT w h).1
  have hG : GoodIn Ts ws := fun w h => hT w (by unfold va_wsS; exact List.mem_append_right _ h)
  have hc : Cond.codeWith y bytes maxL ret hh ∈ ws := by rw [hw]; exact List.mem_cons_self
  refine ⟨⟨hrc, hrs, hR.1, hR.2, pay_in ht hG, hc⟩, ht _ (hG _ hc).1, ok _ (by simp [va_wsS]), ⟨hd.1, hd.2.1⟩, fun sig h => ?_, ok _ (by simp [va_wsS]), ok _ (by simp [va_wsS])⟩
  have h2 := hd.2.2
  rw [h] at h2
  exact (Option.some.inj h2).symm
theorem vx_callSW (X : Stand p l e R s m args below meth c T locs cells slots) (hexec : p.tables.exec = Jvm.exec) {own : String} {index : Nat} {y : MethodName} {bytes : ByteArray} {maxL : Nat} {ret : Option FieldType} {hh : List (Nat × Nat × Nat × Nat)}
    (hown : s.vm.findClass own = some m.cls) (hlink : (Cond.methodLink own index y).before args s = true) (hstat : (Cond.static y).before args s = true) (hinit : (Cond.initialized y.cls).before args s = true)
    (hcode : (Cond.codeWith y bytes maxL ret hh).before args s = true) (hy : y.cls ≠ "java/lang/invoke/MethodHandle" ∧ y.cls ≠ "java/lang/invoke/VarHandle")
    {W9 : Nat} {Pre : Pt → Array Value → Prop} {Post : Pt → Array Value → Option Value → Pt → Prop} (hK : Back l R p e below s args y 3 W9 Pre Post)
    {g : JFrame} (hg : g.method = m) (hsize : g.locals.size = c.maxLocals) {argsL rest : List Value} (hlen : ∀ sig, parseMethodDescriptor y.desc = some sig → argsL.length = sig.parameters.length)
    (hstack : g.stack = argsL.reverse ++ rest) (hW : 2 * g.monitorRoom + (rest.map fun v => v.category).sum ≤ W9) (hdg : decode c.code g.pc = .ok (.invokestatic index, 3))
    (hpre : ∀ vm₁, s.WarmedH vm₁ → Pre ⟨T.setVm vm₁, locs, cells, slots⟩ argsL.toArray) :
    ∃ (v : Option Value) (vm₁ : Vm) (B : Pt), s.WarmedH vm₁ ∧ Stand p l e R s m args below meth c B.U B.locs B.cells B.slots ∧ Post ⟨T.setVm vm₁, locs, cells, slots⟩ argsL.toArray v B ∧
      ∀ target, Steps p.tables e below (B.U.setTop { g with pc := g.pc + 3, stack := v.toList ++ rest }) target → Steps p.tables e below (T.setTop g) target := by
  obtain ⟨mk, methM, cM, hnamed, hmethM, -, -, -, -, -, -, hsigM⟩ := Cond.codeWith_spec hcode
  have hstatic : methM.isStatic = true := Cond.static_spec hnamed hmethM hstat
  obtain ⟨kP, hkP, -⟩ := className_of_methodNamed hnamed
  have hinitP : kP.init = .initialized := Cond.initialized_spec (findClass_of_methodNamed hnamed) hkP hinit
  obtain ⟨vm₁, X₁, hstep₁⟩ := X.invokestatic hexec hown hlink hnamed hmethM hstatic hkP hinitP hy (g := g) hg (argsL := argsL) (rest := rest) (hlen _ hsigM) hstack hdg
  obtain ⟨v, B, X', hpost, hsteps⟩ := hK m meth c ⟨T.setVm vm₁, locs, cells, slots⟩ { g with stack := rest } (.invokestatic index) mk argsL.toArray X₁ hg hsize hdg hW (X₁.named hnamed) (hpre vm₁ X₁.warmed)
  exact ⟨v, vm₁, B, X₁.warmed, X', hpost, fun target h => hstep₁ _ fun acts => by rw [doInvoke_state]; exact hsteps.trans h⟩
theorem vx_runSW {y : MethodName} {bytes cc : ByteArray} {maxL nL mc ms n index : Nat} {ret : Option FieldType} {hh : List (Nat × Nat × Nat × Nat)} {ws : List Cond} {rm : Room} {Pc : Array Value → State → Prop} {Qc : Array Value → State → Outcome → State → Prop} {free : Addr → Prop} {Ts : List Cond} {own : String} {As rest : List Value} {g : JFrame}
    (S : CallFix p m c cc nL s args Ts own) (hM : Met l y ws rm Pc Qc mc ms free) (cw : vx_CSW R s args own index y bytes maxL ret hh ws rm mc ms n) (hp : PreS s H Pc As)
    (hg : g.method = m) (hn : As.length = n) (hsize : g.locals.size = nL) (hstack : g.stack = As.reverse ++ rest) (hW : 2 * g.monitorRoom + (rest.map fun v => v.category).sum ≤ 8) (hdg : decode cc g.pc = .ok (.invokestatic index, 3)) (hf : cells + mc ≤ R.cells ∧ slots + ms ≤ R.slots) :
    va_Run p l e R s m args below meth c H locs cells slots mc ms g rest (Qc As.toArray) (free) := by
  obtain ⟨⟨hrc, hrs, hfr, hlo, hws, hcw⟩, hcode, hini, hy, hlen, hl, hstt⟩ := cw
  have hK : Back l R p e below s args y 3 8 (PreOf R mc ms Pc) (PostOf Qc mc ms free) := va_backW (hh := hh) (bytes := bytes) (maxL := maxL) (ret := ret) hM hp.1 hrc hrs hfr hlo hws hcw (fun a' U hW => word_at hW (Or.inl (by first | rfl | simp [Cond.onTables, Cond.keeps, Cond.steady])) hini)
  obtain ⟨hx, hb, hml, ho, -⟩ := S
  intro T hT X
  obtain ⟨v, vm₁, ⟨U', l2, c2, s2⟩, hW₁, X', ⟨g', mk, t, L, e1, e2, hq, h1, hL, h2, h3⟩, st⟩ := vx_callSW X hx (hh := hh) (bytes := bytes) (maxL := maxL) (ret := ret) ho hl hstt hini hcode hy hK hg (hsize.trans hml.symm) (argsL := As) (rest := rest) (fun sig h => hn.trans (hlen sig h)) hstack hW (by rw [hb]; exact hdg)
    (fun vm₁ hW₁ => ⟨hf.1, hf.2, hp.2 (T.setVm vm₁) hT hW₁⟩)
  dsimp only [Pt.U, Pt.locs, Pt.cells, Pt.slots] at X' e1 e2 h1 h2 h3 st
  subst h1; subst h2; subst h3
  exact ⟨v, (T.setVm vm₁).calling g' mk As.toArray, t, U', L, hT, X', hL, e1, e2, hq, st⟩
/-- not caught here, past rows that name other classes: it goes on to the caller -/
theorem vx_outP {p : Program} {l : Launch} {e : Env} {R : Room} {s : State} {m : MethodId} {args : Array Value} {below : List Frame} {meth : Method} {c : Code} {H : Heap} {locs : List Loc} {cells slots : Nat} {free : Addr → Prop} {ls : Array Slot} {rest : List Value} {Qc : Array Value → State → Outcome → State → Prop} {XC : String → State → State → Prop}
    {pc : Nat} {own E : String} {ce : Cell} {q : Addr} {mc ms : Nat} (hown : s.vm.findClass own = some m.cls) (hlocks : meth.locks = false)
    (hpass : ∀ z ∈ c.exceptionTable.toList, covers z pc = false ∨ (z.catchType ≠ 0 ∧ ∃ nm : String, (Cond.classLink own z.catchType nm).before args s = true ∧ va_Nc E nm s)) (hcell : H[q]? = some ce) (hv : ce.vm = .none) (hcl : s.vm.findClass E = some ce.cls)
    (hx : ∀ t : State, t.heap = H → s.vm.Alike t.vm → XC E s t) (hf : ∀ z ∈ locs, free z.base) (hc : cells ≤ mc) (hs : slots ≤ ms) :
    vx_W p l e R s m args below meth c H locs cells slots (vx_MQ below Qc XC args s mc ms free) (F0 m pc ls rest) q := by
  intro T hT X
  have hpl : e.platform.magicAccessors = ({} : Platform).magicAccessors := by rw [X.admits.platform]
  obtain ⟨vm', hW', X', st⟩ := X.outThrough hlocks q (g := F0 m pc ls rest) rfl rfl rfl (cell := ce) (by rw [hT]; exact hcell) (by rw [hv]; rfl)
    (by obtain ⟨k9, h9, -⟩ := Vm.findClass_spec hcl; exact ⟨k9, h9⟩) (fun z hz => by
      rcases hpass z hz with h | ⟨hz0, nm, hl1, hn1⟩
      · exact Or.inl h
      · obtain ⟨c6, hc6, hcl6⟩ := Cond.classLink_spec hown hl1 e.platform hpl
        obtain ⟨a8, b8, h1, h2, h3⟩ := hn1
        cases Option.some.inj (h1.symm.trans hcl)
        cases Option.some.inj (h2.symm.trans hc6)
        exact Or.inr ⟨hz0, _, hcl6, h3⟩)
  obtain ⟨g₀, hfr⟩ := X'.frames_eq
  have hcell9 : ((T.setVm vm').setFrames (.throwing q :: below)).heap[q]? = some ce := by
    show T.heap[q]? = some ce
    rw [hT]; exact hcell
  have hend : Ended ((T.setVm vm').setFrames (.throwing q :: below)) below (.threw q) := State.frames_setFrames _ (State.cur_lt_of_frames hfr)
  refine ⟨(T.setVm vm').setFrames (.throwing q :: below), ?_, .threw q, X'.here.running, hend, Or.inr ⟨q, rfl, E, ce, locs, hx _ hT (X'.ends _).1.alike, hcell9, hv, hcl, (X'.ends _).1, (X'.ends _).2.mono hc hs, hf⟩⟩
  rw [X.pushThrowing_eq]
  exact st
/-- a thing of a world lies in the heap -/
theorem vx_lt {D : va_G} {cl : List vw_C} {ws : va_W} {H1 : Heap} (h : va_P D cl ws H1) {k : Nat} {q : Nat × va_E} (hk : ws[k]? = some q) : q.1 < H1.size := (h k q hk).lt
end VXS
/-! ===== END ===== -/
/-! ===== BEGIN methods with a table of their own: called by a name, returning or throwing ===== -/
section VXH
/-! vx_backW, vx_callVX, vx_callSX, vx_callVW, vx_runVW, vx_runVX, vx_runSX, vx_ofWH follow the same proofs as their sisters above (Free/Laws.lean, Shelf42/LK1.lean); vx_outP calls Shelf42/NT130.lean (outThrough). -/
section
variable {l : Launch} {R : Room} {p : Program} {e : Env} {below : List Frame} {s : State} {sargs : Array Value} {y : MethodName} {len W9 : Nat}
theorem vx_backW {ws : List Cond} {rm : Room} {Pc : Array Value → State → Prop} {Qc : Array Value → State → Outcome → State → Prop} {XC : String → State → State → Prop} {mc ms : Nat} {free : Addr → Prop} {bytes : ByteArray} {maxL : Nat} {ret : Option FieldType} {hh : List (Nat × Nat × Nat × Nat)}
    (hM : vx_Met l y ws rm Pc Qc XC mc ms free) (hblind : FrameBlind Pc) (hrc : rm.cells = mc) (hrs : rm.slots = ms)
    (hframes : rm.frames + 1 ≤ R.frames) (hlocals : W9 + (maxL + 11) + rm.locals ≤ R.locals)
    (hws : ∀ w ∈ ws, ∀ a' U, s.WarmedH U.vm → w.before a' U = true) (hcode : Cond.codeWith y bytes maxL ret hh ∈ ws) (hinit : ∀ a' U, s.WarmedH U.vm → (Cond.initialized y.cls).before a' U = true) :
    vx_Back l R p e below s sargs y len W9 (PreOf R mc ms Pc) (PostOf Qc mc ms free) (vx_Post XC mc ms free) := by
  intro m meth c A g ig mk a X hg hsize hdg hW hn hp
  have h1 : (headSpec ws rm).pre.before a A.U = true := atoms_intro fun w hw => hws w hw _ _ X.warmed
  have h2 : (Cond.codeWith y bytes maxL ret hh).before a A.U = true := hws _ hcode _ _ X.warmed
  have h3 : (Cond.initialized y.cls).before a A.U = true := hinit _ _ X.warmed
  have h4 : A.cells + (headSpec ws rm).room.cells ≤ R.cells := by rw [show (headSpec ws rm).room.cells = mc from hrc]; exact hp.1
  have h5 : A.slots + (headSpec ws rm).room.slots ≤ R.slots := by rw [show (headSpec ws rm).room.slots = ms from hrs]; exact hp.2.1
  have hPc : Pc a (A.U.calling g mk a) := hblind _ _ _ _ hp.2.2
  obtain ⟨U, Ls, c0, s0⟩ := A
  dsimp only [Pt.U, Pt.locs, Pt.cells, Pt.slots] at h1 h2 h3 h4 h5 X hn hPc ⊢
  obtain ⟨m9, methY, cY, hn9, hmY, hcY, -, hlY, -⟩ := Cond.codeWith_spec h2
  cases Option.some.inj (hn9.symm.trans hn)
  obtain ⟨kY, hkY, -⟩ := className_of_methodNamed hn
  have hinitY : kY.init = .initialized := Cond.initialized_spec (findClass_of_methodNamed hn) hkY h3
  have h : At U g.method c below := by rw [hg]; exact X.here
  have hlocals9 : W9 + (maxL + 11) + (headSpec ws rm).room.locals ≤ R.locals := hlocals
  have happ : (headSpec ws rm).appliesLoose y e.platform (U.calling g mk a) = true :=
    Spec.appliesLoose_calling (g := g) h hdg hn hkY hinitY
      (X.room_calling (g := g) (R' := (headSpec ws rm).room) hsize hmY hcY hframes (by rw [hlY]; omega) h4 h5) h1
  obtain ⟨mid, hmid⟩ := h.above
  have hfr : (U.setTop g).frames = (.java g :: mid) ++ below := by rw [State.frames_setTop' g h.top, hmid]; rfl
  obtain ⟨o, s₂, hsteps, -, hend, hq⟩ := Steps.callFree hM p X.admits X.cas X.clock (acts := []) hfr happ hPc trivial
  have hq' : vx_Q Qc XC mc ms free a (U.calling g mk a) o s₂ := hq
  rw [State.frames_setTop' g h.top] at hend
  obtain ⟨g₀, hg0⟩ := Option.isSome_iff_exists.mp h.top
  obtain ⟨r, hr⟩ := State.topJava?_eq_some.mp hg0
  have hr' : (({ U with heap := s₂.heap, slotsUsed := s₂.slotsUsed } : State).setVm s₂.vm).frames = .java g₀ :: r := hr
  rcases hq' with ⟨hqc, L, hfe, hL⟩ | ⟨q, rfl, E, ce, L, hx, hce, hcv, hcl, hW₂, hsm, hL⟩
  · obtain ⟨⟨v, rfl⟩, hW₂, e2, q2, q3, q4, q5, q6⟩ := id hfe
    have e3 : s₂ = ({ (U.calling g mk a).setFrames s₂.frames with heap := s₂.heap, slotsUsed := s₂.slotsUsed } : State).setVm s₂.vm := by
      have : s₂ = ({ s₂ with vm := (U.calling g mk a).vm } : State).setVm s₂.vm := rfl
      rw [e2] at this
      exact this
    obtain ⟨c₂, i₂, len₂, hc₂, hd₂, hf₂⟩ := hend
    have hW' : U.WarmedH s₂.vm := hW₂
    have hcc : c₂ = c := by
      have h1 : s₂.code? g.method = U.code? g.method := by
        rw [State.code?_eq, State.code?_eq, hW'.alike.method?]
      exact Option.some.inj (hc₂.symm.trans (h1.trans h.code))
    subst hcc
    have hlen : len₂ = len := by rw [hdg] at hd₂; cases hd₂; rfl
    subst hlen
    have hs₂ : s₂ = (({ U with heap := s₂.heap, slotsUsed := s₂.slotsUsed } : State).setVm s₂.vm).setTop { g with pc := g.pc + len₂, stack := v.toList ++ g.stack } := by
      refine e3.trans ?_
      rw [hf₂, State.calling_eq h.top, State.setFrames_setFrames, State.setTop_of_frames _ hr', hr]
      rfl
    have hsame : U.sameButNew ({ U with heap := s₂.heap, slotsUsed := s₂.slotsUsed } : State) L mc ms := by
      refine ⟨?_, q2, q3, q4, q5, q6⟩
      obtain ⟨t, ht, -⟩ := State.frames_cons hr
      show ({ U with heap := s₂.heap, slotsUsed := s₂.slotsUsed } : State) = { U.setFrames U.frames with heap := s₂.heap, slotsUsed := s₂.slotsUsed }
      rw [State.setFrames_self ht]
    subst hg
    refine Or.inl ⟨v, ⟨(({ U with heap := s₂.heap, slotsUsed := s₂.slotsUsed } : State).setVm s₂.vm), Ls ++ L, c0 + mc, s0 + ms⟩,
      ⟨X.admits, X.cas, X.clock, X.frames, X.room, X.hears, X.method, X.code, (X.here.setHeapUsed s₂.heap s₂.slotsUsed).setVm hW'.alike, X.tail, State.WarmedH.trans X.warmed hW', X.limits, X.bytes, X.same.trans (hsame.setVm s.vm)⟩,
      ⟨g, mk, s₂, L, rfl, rfl, hqc, rfl, hL, rfl, rfl⟩, ?_⟩
    show Steps p.tables e below _ ((({ U with heap := s₂.heap, slotsUsed := s₂.slotsUsed } : State).setVm s₂.vm).setTop { g with pc := g.pc + len₂, stack := v.toList ++ g.stack })
    rw [← hs₂]
    exact hsteps
  · obtain ⟨e2, q2, q3, q4, q5, q6⟩ := id hsm
    have e3 : s₂ = ({ (U.calling g mk a).setFrames s₂.frames with heap := s₂.heap, slotsUsed := s₂.slotsUsed } : State).setVm s₂.vm := by
      have : s₂ = ({ s₂ with vm := (U.calling g mk a).vm } : State).setVm s₂.vm := rfl
      rw [e2] at this
      exact this
    have hf₂ : s₂.frames = .throwing q :: .java g :: U.frames.tail := hend
    have hW' : U.WarmedH s₂.vm := hW₂
    have hs₂ : s₂ = ((({ U with heap := s₂.heap, slotsUsed := s₂.slotsUsed } : State).setVm s₂.vm).setTop g).pushFrame (.throwing q) := by
      refine e3.trans ?_
      rw [hf₂, State.calling_eq h.top, State.setFrames_setFrames, State.pushFrame, State.frames_setTop _ hr', State.setTop_of_frames _ hr', State.setFrames_setFrames, hr]
      rfl
    have hsame : U.sameButNew ({ U with heap := s₂.heap, slotsUsed := s₂.slotsUsed } : State) L mc ms := by
      refine ⟨?_, q2, q3, q4, q5, q6⟩
      obtain ⟨t, ht, -⟩ := State.frames_cons hr
      show ({ U with heap := s₂.heap, slotsUsed := s₂.slotsUsed } : State) = { U.setFrames U.frames with heap := s₂.heap, slotsUsed := s₂.slotsUsed }
      rw [State.setFrames_self ht]
    subst hg
    refine Or.inr ⟨q, ⟨(({ U with heap := s₂.heap, slotsUsed := s₂.slotsUsed } : State).setVm s₂.vm), Ls ++ L, c0 + mc, s0 + ms⟩,
      ⟨X.admits, X.cas, X.clock, X.frames, X.room, X.hears, X.method, X.code, (X.here.setHeapUsed s₂.heap s₂.slotsUsed).setVm hW'.alike, X.tail, State.WarmedH.trans X.warmed hW', X.limits, X.bytes, X.same.trans (hsame.setVm s.vm)⟩,
      ⟨g, mk, s₂, L, E, ce, rfl, rfl, hx, hce, hcv, hcl, rfl, hL, rfl, rfl⟩, ?_⟩
    show Steps p.tables e below _ (((({ U with heap := s₂.heap, slotsUsed := s₂.slotsUsed } : State).setVm s₂.vm).setTop g).pushFrame (.throwing q))
    rw [← hs₂]
    exact hsteps
end
variable {p : Program} {l : Launch} {e : Env} {R : Room} {s : State} {m : MethodId} {args : Array Value} {below : List Frame} {meth : Method} {c : Code} {T : State} {H : Heap} {locs : List Loc} {cells slots : Nat}
theorem vx_callVX (X : Stand p l e R s m args below meth c T locs cells slots) (hexec : p.tables.exec = Jvm.exec) {own C : String} {index : Nat} {y : MethodName} {bytes : ByteArray} {maxL : Nat} {ret : Option FieldType} {hh : List (Nat × Nat × Nat × Nat)}
    (hown : s.vm.findClass own = some m.cls) (hlink : (Cond.methodLink own index y).before args s = true) (hinst : (Cond.instanceMethod y).before args s = true) (hsel : (Cond.selects C y y).before args s = true)
    (hcode : (Cond.codeWith y bytes maxL ret hh).before args s = true) (hy : y.cls ≠ "java/lang/invoke/MethodHandle" ∧ y.cls ≠ "java/lang/invoke/VarHandle")
    {W9 : Nat} {Pre : Pt → Array Value → Prop} {Post : Pt → Array Value → Option Value → Pt → Prop} {PostX : Pt → Array Value → Addr → Pt → Prop} (hK : vx_Back l R p e below s args y 3 W9 Pre Post PostX)
    {b : Addr} {cellB : Cell} (hcell : T.heap[b]? = some cellB) (hobj : cellB.vm.isStatics = false) (hcls : s.vm.findClass C = some cellB.cls)
    {g : JFrame} (hg : g.method = m) (hsize : g.locals.size = c.maxLocals) {argsL rest : List Value} (hlen : ∀ sig, parseMethodDescriptor y.desc = some sig → argsL.length = sig.parameters.length)
    (hstack : g.stack = argsL.reverse ++ .ref b :: rest) (hW : 2 * g.monitorRoom + (rest.map fun v => v.category).sum ≤ W9) (hdg : decode c.code g.pc = .ok (.invokevirtual index, 3))
    (hpre : ∀ vm₁, s.WarmedH vm₁ → Pre ⟨T.setVm vm₁, locs, cells, slots⟩ (Value.ref b :: argsL).toArray) :
    (∃ (v : Option Value) (vm₁ : Vm) (B : Pt), s.WarmedH vm₁ ∧ Stand p l e R s m args below meth c B.U B.locs B.cells B.slots ∧ Post ⟨T.setVm vm₁, locs, cells, slots⟩ (Value.ref b :: argsL).toArray v B ∧
      ∀ target, Steps p.tables e below (B.U.setTop { g with pc := g.pc + 3, stack := v.toList ++ rest }) target → Steps p.tables e below (T.setTop g) target) ∨
    (∃ (q : Addr) (vm₁ : Vm) (B : Pt), s.WarmedH vm₁ ∧ Stand p l e R s m args below meth c B.U B.locs B.cells B.slots ∧ PostX ⟨T.setVm vm₁, locs, cells, slots⟩ (Value.ref b :: argsL).toArray q B ∧
      Steps p.tables e below (T.setTop g) ((B.U.setTop { g with stack := rest }).pushFrame (.throwing q))) := by
  obtain ⟨mk, methM, hnamed, hmethM, hstM, habM⟩ := Cond.instanceMethod_spec hinst
  obtain ⟨m8, methM', cM, hn8, hmethM', -, -, -, -, -, -, hsigM⟩ := Cond.codeWith_spec hcode
  cases Option.some.inj (hn8.symm.trans hnamed)
  cases hmethM.symm.trans hmethM'
  obtain ⟨c2, r2, m2, q1, q2, q3, q4, kP, hkP, hkPi⟩ := Cond.selects_spec hsel
  cases hcls.symm.trans q1
  cases (State.methodFound?_of_named hnamed hy).symm.trans q2
  cases hnamed.symm.trans q3
  have hselP : selectMethod e.platform s.vm cellB.cls mk = .method mk := by rw [Launch.admits_selectMethod X.admits]; exact q4
  obtain ⟨vm₁, X₁, hstep₁⟩ := X.invokevirtual hexec hown hlink hnamed hmethM hstM hkP hkPi hy (a := b) (cell := cellB) hcell
    (fun z h => by rw [h] at hobj; cases hobj) hselP hmethM habM hkP hkPi (g := g) hg (argsL := argsL) (rest := rest) (hlen _ hsigM) hstack hdg
  rcases hK m meth c ⟨T.setVm vm₁, locs, cells, slots⟩ { g with stack := rest } (.invokevirtual index) mk (Value.ref b :: argsL).toArray X₁ hg hsize hdg hW (X₁.named hnamed) (hpre vm₁ X₁.warmed) with ⟨v, B, X', hpost, hsteps⟩ | ⟨q, B, X', hpost, hsteps⟩
  · exact Or.inl ⟨v, vm₁, B, X₁.warmed, X', hpost, fun target h => hstep₁ _ fun acts => by rw [doInvoke_state]; exact hsteps.trans h⟩
  · exact Or.inr ⟨q, vm₁, B, X₁.warmed, X', hpost, hstep₁ _ fun acts => by rw [doInvoke_state]; exact hsteps⟩
theorem vx_callSX (X : Stand p l e R s m args below meth c T locs cells slots) (hexec : p.tables.exec = Jvm.exec) {own : String} {index : Nat} {y : MethodName} {bytes : ByteArray} {maxL : Nat} {ret : Option FieldType} {hh : List (Nat × Nat × Nat × Nat)}
    (hown : s.vm.findClass own = some m.cls) (hlink : (Cond.methodLink own index y).before args s = true) (hstat : (Cond.static y).before args s = true) (hinit : (Cond.initialized y.cls).before args s = true)
    (hcode : (Cond.codeWith y bytes maxL ret hh).before args s = true) (hy : y.cls ≠ "java/lang/invoke/MethodHandle" ∧ y.cls ≠ "java/lang/invoke/VarHandle")
    {W9 : Nat} {Pre : Pt → Array Value → Prop} {Post : Pt → Array Value → Option Value → Pt → Prop} {PostX : Pt → Array Value → Addr → Pt → Prop} (hK : vx_Back l R p e below s args y 3 W9 Pre Post PostX)
    {g : JFrame} (hg : g.method = m) (hsize : g.locals.size = c.maxLocals) {argsL rest : List Value} (hlen : ∀ sig, parseMethodDescriptor y.desc = some sig → argsL.length = sig.parameters.length)
    (hstack : g.stack = argsL.reverse ++ rest) (hW : 2 * g.monitorRoom + (rest.map fun v => v.category).sum ≤ W9) (hdg : decode c.code g.pc = .ok (.invokestatic index, 3))
    (hpre : ∀ vm₁, s.WarmedH vm₁ → Pre ⟨T.setVm vm₁, locs, cells, slots⟩ argsL.toArray) :
    (∃ (v : Option Value) (vm₁ : Vm) (B : Pt), s.WarmedH vm₁ ∧ Stand p l e R s m args below meth c B.U B.locs B.cells B.slots ∧ Post ⟨T.setVm vm₁, locs, cells, slots⟩ argsL.toArray v B ∧
      ∀ target, Steps p.tables e below (B.U.setTop { g with pc := g.pc + 3, stack := v.toList ++ rest }) target → Steps p.tables e below (T.setTop g) target) ∨
    (∃ (q : Addr) (vm₁ : Vm) (B : Pt), s.WarmedH vm₁ ∧ Stand p l e R s m args below meth c B.U B.locs B.cells B.slots ∧ PostX ⟨T.setVm vm₁, locs, cells, slots⟩ argsL.toArray q B ∧
      Steps p.tables e below (T.setTop g) ((B.U.setTop { g with stack := rest }).pushFrame (.throwing q))) := by
  obtain ⟨mk, methM, cM, hnamed, hmethM, -, -, -, -, -, -, hsigM⟩ := Cond.codeWith_spec hcode
  have hstatic : methM.isStatic = true := Cond.static_spec hnamed hmethM hstat
  obtain ⟨kP, hkP, -⟩ := className_of_methodNamed hnamed
  have hinitP : kP.init = .initialized := Cond.initialized_spec (findClass_of_methodNamed hnamed) hkP hinit
  obtain ⟨vm₁, X₁, hstep₁⟩ := X.invokestatic hexec hown hlink hnamed hmethM hstatic hkP hinitP hy (g := g) hg (argsL := argsL) (rest := rest) (hlen _ hsigM) hstack hdg
  rcases hK m meth c ⟨T.setVm vm₁, locs, cells, slots⟩ { g with stack := rest } (.invokestatic index) mk argsL.toArray X₁ hg hsize hdg hW (X₁.named hnamed) (hpre vm₁ X₁.warmed) with ⟨v, B, X', hpost, hsteps⟩ | ⟨q, B, X', hpost, hsteps⟩
  · exact Or.inl ⟨v, vm₁, B, X₁.warmed, X', hpost, fun target h => hstep₁ _ fun acts => by rw [doInvoke_state]; exact hsteps.trans h⟩
  · exact Or.inr ⟨q, vm₁, B, X₁.warmed, X', hpost, hstep₁ _ fun acts => by rw [doInvoke_state]; exact hsteps⟩
theorem vx_callVW (X : Stand p l e R s m args below meth c T locs cells slots) (hexec : p.tables.exec = Jvm.exec) {own C : String} {index : Nat} {y : MethodName} {bytes : ByteArray} {maxL : Nat} {ret : Option FieldType} {hh : List (Nat × Nat × Nat × Nat)}
    (hown : s.vm.findClass own = some m.cls) (hlink : (Cond.methodLink own index y).before args s = true) (hinst : (Cond.instanceMethod y).before args s = true) (hsel : (Cond.selects C y y).before args s = true)
    (hcode : (Cond.codeWith y bytes maxL ret hh).before args s = true) (hy : y.cls ≠ "java/lang/invoke/MethodHandle" ∧ y.cls ≠ "java/lang/invoke/VarHandle")
    {W9 : Nat} {Pre : Pt → Array Value → Prop} {Post : Pt → Array Value → Option Value → Pt → Prop} (hK : Back l R p e below s args y 3 W9 Pre Post)
    {b : Addr} {cellB : Cell} (hcell : T.heap[b]? = some cellB) (hobj : cellB.vm.isStatics = false) (hcls : s.vm.findClass C = some cellB.cls)
    {g : JFrame} (hg : g.method = m) (hsize : g.locals.size = c.maxLocals) {argsL rest : List Value} (hlen : ∀ sig, parseMethodDescriptor y.desc = some sig → argsL.length = sig.parameters.length)
    (hstack : g.stack = argsL.reverse ++ .ref b :: rest) (hW : 2 * g.monitorRoom + (rest.map fun v => v.category).sum ≤ W9) (hdg : decode c.code g.pc = .ok (.invokevirtual index, 3))
    (hpre : ∀ vm₁, s.WarmedH vm₁ → Pre ⟨T.setVm vm₁, locs, cells, slots⟩ (Value.ref b :: argsL).toArray) :
    ∃ (v : Option Value) (vm₁ : Vm) (B : Pt), s.WarmedH vm₁ ∧ Stand p l e R s m args below meth c B.U B.locs B.cells B.slots ∧ Post ⟨T.setVm vm₁, locs, cells, slots⟩ (Value.ref b :: argsL).toArray v B ∧
      ∀ target, Steps p.tables e below (B.U.setTop { g with pc := g.pc + 3, stack := v.toList ++ rest }) target → Steps p.tables e below (T.setTop g) target := by
  obtain ⟨mk, methM, hnamed, hmethM, hstM, habM⟩ := Cond.instanceMethod_spec hinst
  obtain ⟨m8, methM', cM, hn8, hmethM', -, -, -, -, -, -, hsigM⟩ := Cond.codeWith_spec hcode
  cases Option.some.inj (hn8.symm.trans hnamed)
  cases hmethM.symm.trans hmethM'
  obtain ⟨c2, r2, m2, q1, q2, q3, q4, kP, hkP, hkPi⟩ := Cond.selects_spec hsel
  cases hcls.symm.trans q1
  cases (State.methodFound?_of_named hnamed hy).symm.trans q2
  cases hnamed.symm.trans q3
  have hselP : selectMethod e.platform s.vm cellB.cls mk = .method mk := by rw [Launch.admits_selectMethod X.admits]; exact q4
  obtain ⟨vm₁, X₁, hstep₁⟩ := X.invokevirtual hexec hown hlink hnamed hmethM hstM hkP hkPi hy (a := b) (cell := cellB) hcell
    (fun z h => by rw [h] at hobj; cases hobj) hselP hmethM habM hkP hkPi (g := g) hg (argsL := argsL) (rest := rest) (hlen _ hsigM) hstack hdg
  obtain ⟨v, B, X', hpost, hsteps⟩ := hK m meth c ⟨T.setVm vm₁, locs, cells, slots⟩ { g with stack := rest } (.invokevirtual index) mk (Value.ref b :: argsL).toArray X₁ hg hsize hdg hW (X₁.named hnamed) (hpre vm₁ X₁.warmed)
  exact ⟨v, vm₁, B, X₁.warmed, X', hpost, fun target h => hstep₁ _ fun acts => by rw [doInvoke_state]; exact hsteps.trans h⟩
abbrev vx_CVW (R : Room) (s : State) (args : Array Value) (own C : String) (index : Nat) (y : MethodName) (bytes : ByteArray) (maxL : Nat) (ret : Option FieldType) (hh : List (Nat × Nat × Nat × Nat)) (ws : List Cond) (rm : Room) (mc ms n : Nat) : Prop :=
  (rm.cells = mc ∧ rm.slots = ms ∧ rm.frames + 1 ≤ R.frames ∧ 8 + (maxL + 11) + rm.locals ≤ R.locals ∧ (∀ w ∈ ws, ∀ (a' : Array Value) (U : State), s.WarmedH U.vm → w.before a' U = true) ∧ Cond.codeWith y bytes maxL ret hh ∈ ws) ∧
  (Cond.codeWith y bytes maxL ret hh).before args s = true ∧ (Cond.initialized y.cls).before args s = true ∧ (y.cls ≠ "java/lang/invoke/MethodHandle" ∧ y.cls ≠ "java/lang/invoke/VarHandle") ∧
  (∀ sig, parseMethodDescriptor y.desc = some sig → n = sig.parameters.length) ∧ (Cond.methodLink own index y).before args s = true ∧ (Cond.instanceMethod y).before args s = true ∧ (Cond.selects C y y).before args s = true
theorem vx_cwVW {own C : String} {index maxL mc ms : Nat} {y : MethodName} {bytes : ByteArray} {ret : Option FieldType} {hh : List (Nat × Nat × Nat × Nat)} {Ts ws ws' : List Cond} {rm : Room} (n : Nat) (ht : ∀ w ∈ Ts, w.before args s = true) (hT : GoodIn Ts (wsV own index C y ws)) (hw : ws = Cond.codeWith y bytes maxL ret hh :: ws') (hrc : rm.cells = mc) (hrs : rm.slots = ms)
    (hd : y.cls = C ∧ y.cls ≠ "java/lang/invoke/MethodHandle" ∧ y.cls ≠ "java/lang/invoke/VarHandle" ∧ (parseMethodDescriptor y.desc).map (fun d => d.parameters.length) = some n) (hR : rm.frames + 1 ≤ R.frames ∧ 8 + (maxL + 11) + rm.locals ≤ R.locals) :
    vx_CVW R s args own C index y bytes maxL ret hh ws rm mc ms n := by
  obtain ⟨hC, hd⟩ := hd
  subst hC
  have ok : ∀ w ∈ wsV own index y.cls y ws, w.before args s = true := fun w h => ht w (hT w h).1
  have hG : GoodIn Ts ws := fun w h => hT w (by unfold wsV; exact List.mem_append_right _ h)
  have hc : Cond.codeWith y bytes maxL ret hh ∈ ws := by rw [hw]; exact List.mem_cons_self
  refine ⟨⟨hrc, hrs, hR.1, hR.2, pay_in ht hG, hc⟩, ht _ (hG _ hc).1, ok _ (by simp [wsV]), ⟨hd.1, hd.2.1⟩, fun sig h => ?_, ok _ (by simp [wsV]), ok _ (by simp [wsV]), ok _ (by simp [wsV])⟩
  have h2 := hd.2.2
  rw [h] at h2
  exact (Option.some.inj h2).symm
theorem vx_runVW {y : MethodName} {bytes cc : ByteArray} {maxL nL mc ms n index : Nat} {ret : Option FieldType} {hh : List (Nat × Nat × Nat × Nat)} {ws : List Cond} {rm : Room} {Pc : Array Value → State → Prop} {Qc : Array Value → State → Outcome → State → Prop} {free : Addr → Prop} {Ts : List Cond} {own C : String} {b : Addr} {As rest : List Value} {g : JFrame}
    (S : CallFix p m c cc nL s args Ts own) (hM : Met l y ws rm Pc Qc mc ms free) (cw : vx_CVW R s args own C index y bytes maxL ret hh ws rm mc ms n) (hp : PreV s H C b Pc As)
    (hg : g.method = m) (hn : As.length = n) (hsize : g.locals.size = nL) (hstack : g.stack = As.reverse ++ .ref b :: rest) (hW : 2 * g.monitorRoom + (rest.map fun v => v.category).sum ≤ 8) (hdg : decode cc g.pc = .ok (.invokevirtual index, 3)) (hf : cells + mc ≤ R.cells ∧ slots + ms ≤ R.slots) :
    va_Run p l e R s m args below meth c H locs cells slots mc ms g rest (Qc (Value.ref b :: As).toArray) free := by
  obtain ⟨⟨hrc, hrs, hfr, hlo, hws, hcw⟩, hcode, hini, hy, hlen, hl, hin, hse⟩ := cw
  have hK : Back l R p e below s args y 3 8 (PreOf R mc ms Pc) (PostOf Qc mc ms free) := va_backW (hh := hh) (bytes := bytes) (maxL := maxL) (ret := ret) hM hp.1 hrc hrs hfr hlo hws hcw (fun a' U hW => word_at hW (Or.inl (by first | rfl | simp [Cond.onTables, Cond.keeps, Cond.steady])) hini)
  obtain ⟨hx, hb, hml, ho, -⟩ := S
  obtain ⟨-, ⟨cellB, hcB, hoB, hclB⟩, hPc⟩ := hp
  intro T hT X
  obtain ⟨v, vm₁, ⟨U', l2, c2, s2⟩, hW₁, X', ⟨g', mk, t, L, e1, e2, hq, h1, hL, h2, h3⟩, st⟩ := vx_callVW X hx (C := C) (hh := hh) (bytes := bytes) (maxL := maxL) (ret := ret) ho hl hin hse hcode hy hK (by rw [hT]; exact hcB) hoB hclB hg (hsize.trans hml.symm) (argsL := As) (rest := rest) (fun sig h => hn.trans (hlen sig h)) hstack hW (by rw [hb]; exact hdg)
    (fun vm₁ hW₁ => ⟨hf.1, hf.2, hPc (T.setVm vm₁) hT hW₁⟩)
  dsimp only [Pt.U, Pt.locs, Pt.cells, Pt.slots] at X' e1 e2 h1 h2 h3 st
  subst h1; subst h2; subst h3
  exact ⟨v, (T.setVm vm₁).calling g' mk (Value.ref b :: As).toArray, t, U', L, hT, X', hL, e1, e2, hq, st⟩
section
variable {y : MethodName} {bytes cc : ByteArray} {maxL nL mc ms n index : Nat} {ret : Option FieldType} {ws : List Cond} {rm : Room} {Pc : Array Value → State → Prop} {Qc : Array Value → State → Outcome → State → Prop} {XC : String → State → State → Prop} {free : Addr → Prop} {Ts : List Cond} {own C : String} {b : Addr} {As rest : List Value} {g : JFrame}
theorem vx_runVX {hh : List (Nat × Nat × Nat × Nat)} (S : CallFix p m c cc nL s args Ts own) (hM : vx_Met l y ws rm Pc Qc XC mc ms free) (cw : vx_CVW R s args own C index y bytes maxL ret hh ws rm mc ms n) (hp : PreV s H C b Pc As)
    (hg : g.method = m) (hn : As.length = n) (hsize : g.locals.size = nL) (hstack : g.stack = As.reverse ++ .ref b :: rest) (hW : 2 * g.monitorRoom + (rest.map fun v => v.category).sum ≤ 8) (hdg : decode cc g.pc = .ok (.invokevirtual index, 3)) (hf : cells + mc ≤ R.cells ∧ slots + ms ≤ R.slots) :
    vx_Run p l e R s m args below meth c H locs cells slots mc ms g rest (Qc (Value.ref b :: As).toArray) XC free := by
  obtain ⟨⟨hrc, hrs, hfr, hlo, hws, hcw⟩, hcode, hini, hy, hlen, hl, hin, hse⟩ := cw
  have hK : vx_Back l R p e below s args y 3 8 (PreOf R mc ms Pc) (PostOf Qc mc ms free) (vx_Post XC mc ms free) := vx_backW (hh := hh) (bytes := bytes) (maxL := maxL) (ret := ret) hM hp.1 hrc hrs hfr hlo hws hcw (fun a' U hW => word_at hW (Or.inl (by first | rfl | simp [Cond.onTables, Cond.keeps, Cond.steady])) hini)
  obtain ⟨hx, hb, hml, ho, -⟩ := S
  obtain ⟨-, ⟨cellB, hcB, hoB, hclB⟩, hPc⟩ := hp
  intro T hT X
  rcases vx_callVX X hx (C := C) (hh := hh) (bytes := bytes) (maxL := maxL) (ret := ret) ho hl hin hse hcode hy hK (by rw [hT]; exact hcB) hoB hclB hg (hsize.trans hml.symm) (argsL := As) (rest := rest) (fun sig h => hn.trans (hlen sig h)) hstack hW (by rw [hb]; exact hdg)
    (fun vm₁ hW₁ => ⟨hf.1, hf.2, hPc (T.setVm vm₁) hT hW₁⟩) with ⟨v, vm₁, ⟨U', l2, c2, s2⟩, hW₁, X', ⟨g', mk, t, L, e1, e2, hq, h1, hL, h2, h3⟩, st⟩ | ⟨q, vm₁, ⟨U', l2, c2, s2⟩, hW₁, X', ⟨g', mk, t, L, E, ce, e1, e2, hq, hce, hcv, hcl, h1, hL, h2, h3⟩, st⟩
  · dsimp only [Pt.U, Pt.locs, Pt.cells, Pt.slots] at X' e1 e2 h1 h2 h3 st
    subst h1; subst h2; subst h3
    exact Or.inl ⟨v, (T.setVm vm₁).calling g' mk (Value.ref b :: As).toArray, t, U', L, hT, X', hL, e1, e2, hq, st⟩
  · dsimp only [Pt.U, Pt.locs, Pt.cells, Pt.slots] at X' e1 e2 h1 h2 h3 st hcl
    subst h1; subst h2; subst h3
    exact Or.inr ⟨q, (T.setVm vm₁).calling g' mk (Value.ref b :: As).toArray, t, U', L, E, ce, hT, X', hL, e1, e2, hq, hce, hcv, vx_cls hW₁ hcl, st⟩
theorem vx_runSX {hh : List (Nat × Nat × Nat × Nat)} (S : CallFix p m c cc nL s args Ts own) (hM : vx_Met l y ws rm Pc Qc XC mc ms free) (cw : vx_CSW R s args own index y bytes maxL ret hh ws rm mc ms n) (hp : PreS s H Pc As)
    (hg : g.method = m) (hn : As.length = n) (hsize : g.locals.size = nL) (hstack : g.stack = As.reverse ++ rest) (hW : 2 * g.monitorRoom + (rest.map fun v => v.category).sum ≤ 8) (hdg : decode cc g.pc = .ok (.invokestatic index, 3)) (hf : cells + mc ≤ R.cells ∧ slots + ms ≤ R.slots) :
    vx_Run p l e R s m args below meth c H locs cells slots mc ms g rest (Qc As.toArray) XC free := by
  obtain ⟨⟨hrc, hrs, hfr, hlo, hws, hcw⟩, hcode, hini, hy, hlen, hl, hstt⟩ := cw
  have hK : vx_Back l R p e below s args y 3 8 (PreOf R mc ms Pc) (PostOf Qc mc ms free) (vx_Post XC mc ms free) := vx_backW (hh := hh) (bytes := bytes) (maxL := maxL) (ret := ret) hM hp.1 hrc hrs hfr hlo hws hcw (fun a' U hW => word_at hW (Or.inl (by first | rfl | simp [Cond.onTables, Cond.keeps, Cond.steady])) hini)
  obtain ⟨hx, hb, hml, ho, -⟩ := S
  intro T hT X
  rcases vx_callSX X hx (hh := hh) (bytes := bytes) (maxL := maxL) (ret := ret) ho hl hstt hini hcode hy hK hg (hsize.trans hml.symm) (argsL := As) (rest := rest) (fun sig h => hn.trans (hlen sig h)) hstack hW (by rw [hb]; exact hdg)
    (fun vm₁ hW₁ => ⟨hf.1, hf.2, hp.2 (T.setVm vm₁) hT hW₁⟩) with ⟨v, vm₁, ⟨U', l2, c2, s2⟩, hW₁, X', ⟨g', mk, t, L, e1, e2, hq, h1, hL, h2, h3⟩, st⟩ | ⟨q, vm₁, ⟨U', l2, c2, s2⟩, hW₁, X', ⟨g', mk, t, L, E, ce, e1, e2, hq, hce, hcv, hcl, h1, hL, h2, h3⟩, st⟩
  · dsimp only [Pt.U, Pt.locs, Pt.cells, Pt.slots] at X' e1 e2 h1 h2 h3 st
    subst h1; subst h2; subst h3
    exact Or.inl ⟨v, (T.setVm vm₁).calling g' mk As.toArray, t, U', L, hT, X', hL, e1, e2, hq, st⟩
  · dsimp only [Pt.U, Pt.locs, Pt.cells, Pt.slots] at X' e1 e2 h1 h2 h3 st hcl
    subst h1; subst h2; subst h3
    exact Or.inr ⟨q, (T.setVm vm₁).calling g' mk As.toArray, t, U', L, E, ce, hT, X', hL, e1, e2, hq, hce, hcv, vx_cls hW₁ hcl, st⟩
end
end VXH
theorem vx_ofWH {l : Launch} {y : MethodName} {ws ws' : List Cond} {rm : Room} {Pc : Array Value → State → Prop} {Qc : Array Value → State → Outcome → State → Prop} {XC : String → State → State → Prop} {mc ms : Nat} {free : Addr → Prop} {cc : ByteArray} {maxL : Nat} {ret : Option FieldType} {hh : List (Nat × Nat × Nat × Nat)}
    (hy : plainName y.cls = true) (hw : ws = Cond.codeWith y cc maxL ret hh :: ws')
    (body : ∀ p e s m args below meth c s₁, BodyLoose p l y (headSpec ws rm) cc maxL ret e s m args below meth c s₁ → c.maxLocals = maxL → Pc args s →
      W p l e (headSpec ws rm).room s m args below meth c s.heap [] 0 0 (vx_MQ below Qc XC args s mc ms free) (entryFrame m args maxL)) : vx_Met l y ws rm Pc Qc XC mc ms free := by
  refine MetFree.of_bodyS (code := cc) (maxLocals := maxL) (ret := ret) hy ?_ ?_
  · intro args s m h hn
    obtain ⟨m9, meth, c, hn9, h1, h2, h3, h4, -, h5, h6, -⟩ := Cond.codeWith_spec (atoms_spec (ws := ws) h _ (by rw [hw]; exact List.mem_cons_self))
    cases hn.symm.trans hn9
    exact ⟨meth, c, h1, h2, h3, h4, h5, h6⟩
  · intro p e s m args below meth c s₁ B hml hP _
    have hh0 : s₁.heap = s.heap := by rw [B.state]; rfl
    obtain ⟨t, a1, o, b1, b2, b3⟩ := body p e s m args below meth c s₁ B hml hP s₁ hh0 (Stand.of_body B)
    exact ⟨t, o, a1, b1, b2, b3⟩
/-! ===== END ===== -/
end
section
-- ===== PART A: goes FIRST, ahead of the names: the tables' words, and 'selects' of the private methods out of them =====
/-- a private method of a class that the tables say can be made, by its rows of tables_1 -/
def lw_okq (q : MethodName × Nat) : Prop := (q.1.cls ≠ "java/lang/invoke/MethodHandle" ∧ q.1.cls ≠ "java/lang/invoke/VarHandle") ∧ Cond.instantiable q.1.cls q.2 ∈ tables_1 ∧ Cond.privateMethod q.1 ∈ tables_1 ∧ Cond.instanceMethod q.1 ∈ tables_1
theorem lw_p0 : lw_okq (⟨"BarrierMarks", "taskAt", "(I)LBarrierMarks$Task;"⟩, 10) := ⟨⟨by decide +kernel, by decide +kernel⟩, List.mem_of_getElem? (i := 18) (by decide +kernel), List.mem_of_getElem? (i := 150) (by decide +kernel), List.mem_of_getElem? (i := 151) (by decide +kernel)⟩
theorem lw_p1 : lw_okq (⟨"java/lang/Throwable", "fillInStackTrace", "(I)Ljava/lang/Throwable;"⟩, 6) := ⟨⟨by decide +kernel, by decide +kernel⟩, List.mem_of_getElem? (i := 192) (by decide +kernel), List.mem_of_getElem? (i := 190) (by decide +kernel), List.mem_of_getElem? (i := 191) (by decide +kernel)⟩
theorem lw_p2 : lw_okq (⟨"BarrierMarks", "addChannel", "(LBarrierMarks$Channel;LBarrierMarks$Task;)I"⟩, 10) := ⟨⟨by decide +kernel, by decide +kernel⟩, List.mem_of_getElem? (i := 18) (by decide +kernel), List.mem_of_getElem? (i := 298) (by decide +kernel), List.mem_of_getElem? (i := 299) (by decide +kernel)⟩
theorem lw_p3 : lw_okq (⟨"BarrierMarks", "leadsOnTo", "(II)Z"⟩, 10) := ⟨⟨by decide +kernel, by decide +kernel⟩, List.mem_of_getElem? (i := 18) (by decide +kernel), List.mem_of_getElem? (i := 306) (by decide +kernel), List.mem_of_getElem? (i := 307) (by decide +kernel)⟩
theorem lw_p4 : lw_okq (⟨"BarrierMarks", "sourceAt", "(I)LBarrierMarks$Source;"⟩, 10) := ⟨⟨by decide +kernel, by decide +kernel⟩, List.mem_of_getElem? (i := 18) (by decide +kernel), List.mem_of_getElem? (i := 361) (by decide +kernel), List.mem_of_getElem? (i := 362) (by decide +kernel)⟩
theorem lw_p5 : lw_okq (⟨"BarrierMarks", "channelAt", "(I)LBarrierMarks$Channel;"⟩, 10) := ⟨⟨by decide +kernel, by decide +kernel⟩, List.mem_of_getElem? (i := 18) (by decide +kernel), List.mem_of_getElem? (i := 365) (by decide +kernel), List.mem_of_getElem? (i := 366) (by decide +kernel)⟩
theorem lw_p6 : lw_okq (⟨"BarrierMarks", "keepAndAck", "(LBarrierMarks$Mark;LBarrierMarks$Task;)V"⟩, 10) := ⟨⟨by decide +kernel, by decide +kernel⟩, List.mem_of_getElem? (i := 18) (by decide +kernel), List.mem_of_getElem? (i := 446) (by decide +kernel), List.mem_of_getElem? (i := 447) (by decide +kernel)⟩
theorem lw_p7 : lw_okq (⟨"BarrierMarks", "keeperTurn", "()I"⟩, 10) := ⟨⟨by decide +kernel, by decide +kernel⟩, List.mem_of_getElem? (i := 18) (by decide +kernel), List.mem_of_getElem? (i := 465) (by decide +kernel), List.mem_of_getElem? (i := 466) (by decide +kernel)⟩
theorem lw_p8 : lw_okq (⟨"BarrierMarks", "markAt", "(I)LBarrierMarks$Mark;"⟩, 10) := ⟨⟨by decide +kernel, by decide +kernel⟩, List.mem_of_getElem? (i := 18) (by decide +kernel), List.mem_of_getElem? (i := 473) (by decide +kernel), List.mem_of_getElem? (i := 474) (by decide +kernel)⟩
theorem lw_p9 : lw_okq (⟨"BarrierMarks", "completeMark", "(LBarrierMarks$Mark;)V"⟩, 10) := ⟨⟨by decide +kernel, by decide +kernel⟩, List.mem_of_getElem? (i := 18) (by decide +kernel), List.mem_of_getElem? (i := 486) (by decide +kernel), List.mem_of_getElem? (i := 487) (by decide +kernel)⟩
theorem lw_p10 : lw_okq (⟨"BarrierMarks", "stopMark", "(LBarrierMarks$Mark;I)V"⟩, 10) := ⟨⟨by decide +kernel, by decide +kernel⟩, List.mem_of_getElem? (i := 18) (by decide +kernel), List.mem_of_getElem? (i := 490) (by decide +kernel), List.mem_of_getElem? (i := 491) (by decide +kernel)⟩
theorem lw_p11 : lw_okq (⟨"BarrierMarks", "taskTurn", "(LBarrierMarks$Task;)I"⟩, 10) := ⟨⟨by decide +kernel, by decide +kernel⟩, List.mem_of_getElem? (i := 18) (by decide +kernel), List.mem_of_getElem? (i := 503) (by decide +kernel), List.mem_of_getElem? (i := 504) (by decide +kernel)⟩
theorem lw_p12 : lw_okq (⟨"BarrierMarks", "takeNext", "(LBarrierMarks$Task;)I"⟩, 10) := ⟨⟨by decide +kernel, by decide +kernel⟩, List.mem_of_getElem? (i := 18) (by decide +kernel), List.mem_of_getElem? (i := 511) (by decide +kernel), List.mem_of_getElem? (i := 512) (by decide +kernel)⟩
theorem lw_p13 : lw_okq (⟨"BarrierMarks", "endTask", "(LBarrierMarks$Task;)I"⟩, 10) := ⟨⟨by decide +kernel, by decide +kernel⟩, List.mem_of_getElem? (i := 18) (by decide +kernel), List.mem_of_getElem? (i := 576) (by decide +kernel), List.mem_of_getElem? (i := 577) (by decide +kernel)⟩
theorem lw_p14 : lw_okq (⟨"BarrierMarks", "keepFor", "(LBarrierMarks$Task;LBarrierMarks$Mark;)I"⟩, 10) := ⟨⟨by decide +kernel, by decide +kernel⟩, List.mem_of_getElem? (i := 18) (by decide +kernel), List.mem_of_getElem? (i := 580) (by decide +kernel), List.mem_of_getElem? (i := 581) (by decide +kernel)⟩
theorem lw_p15 : lw_okq (⟨"BarrierMarks", "begunMarkAt", "(I)LBarrierMarks$Mark;"⟩, 10) := ⟨⟨by decide +kernel, by decide +kernel⟩, List.mem_of_getElem? (i := 18) (by decide +kernel), List.mem_of_getElem? (i := 605) (by decide +kernel), List.mem_of_getElem? (i := 606) (by decide +kernel)⟩
def lw_privs_1 : List (MethodName × Nat) := [(⟨"BarrierMarks", "taskAt", "(I)LBarrierMarks$Task;"⟩, 10), (⟨"java/lang/Throwable", "fillInStackTrace", "(I)Ljava/lang/Throwable;"⟩, 6), (⟨"BarrierMarks", "addChannel", "(LBarrierMarks$Channel;LBarrierMarks$Task;)I"⟩, 10), (⟨"BarrierMarks", "leadsOnTo", "(II)Z"⟩, 10), (⟨"BarrierMarks", "sourceAt", "(I)LBarrierMarks$Source;"⟩, 10), (⟨"BarrierMarks", "channelAt", "(I)LBarrierMarks$Channel;"⟩, 10), (⟨"BarrierMarks", "keepAndAck", "(LBarrierMarks$Mark;LBarrierMarks$Task;)V"⟩, 10), (⟨"BarrierMarks", "keeperTurn", "()I"⟩, 10), (⟨"BarrierMarks", "markAt", "(I)LBarrierMarks$Mark;"⟩, 10), (⟨"BarrierMarks", "completeMark", "(LBarrierMarks$Mark;)V"⟩, 10), (⟨"BarrierMarks", "stopMark", "(LBarrierMarks$Mark;I)V"⟩, 10), (⟨"BarrierMarks", "taskTurn", "(LBarrierMarks$Task;)I"⟩, 10), (⟨"BarrierMarks", "takeNext", "(LBarrierMarks$Task;)I"⟩, 10), (⟨"BarrierMarks", "endTask", "(LBarrierMarks$Task;)I"⟩, 10), (⟨"BarrierMarks", "keepFor", "(LBarrierMarks$Task;LBarrierMarks$Mark;)I"⟩, 10), (⟨"BarrierMarks", "begunMarkAt", "(I)LBarrierMarks$Mark;"⟩, 10)]
theorem lw_r1 : ∀ q ∈ lw_privs_1, lw_okq q := List.forall_mem_cons.mpr ⟨lw_p0, List.forall_mem_cons.mpr ⟨lw_p1, List.forall_mem_cons.mpr ⟨lw_p2, List.forall_mem_cons.mpr ⟨lw_p3, List.forall_mem_cons.mpr ⟨lw_p4, List.forall_mem_cons.mpr ⟨lw_p5, List.forall_mem_cons.mpr ⟨lw_p6, List.forall_mem_cons.mpr ⟨lw_p7, List.forall_mem_cons.mpr ⟨lw_p8, List.forall_mem_cons.mpr ⟨lw_p9, List.forall_mem_cons.mpr ⟨lw_p10, List.forall_mem_cons.mpr ⟨lw_p11, List.forall_mem_cons.mpr ⟨lw_p12, List.forall_mem_cons.mpr ⟨lw_p13, List.forall_mem_cons.mpr ⟨lw_p14, List.forall_mem_cons.mpr ⟨lw_p15, fun _ h => absurd h List.not_mem_nil⟩⟩⟩⟩⟩⟩⟩⟩⟩⟩⟩⟩⟩⟩⟩⟩
theorem lw_p16 : lw_okq (⟨"BarrierMarks", "completeMarkAt", "(I)LBarrierMarks$Mark;"⟩, 10) := ⟨⟨by decide +kernel, by decide +kernel⟩, List.mem_of_getElem? (i := 18) (by decide +kernel), List.mem_of_getElem? (i := 633) (by decide +kernel), List.mem_of_getElem? (i := 634) (by decide +kernel)⟩
theorem lw_p17 : lw_okq (⟨"BarrierMarks", "hasEnded", "(I)Z"⟩, 10) := ⟨⟨by decide +kernel, by decide +kernel⟩, List.mem_of_getElem? (i := 18) (by decide +kernel), List.mem_of_getElem? (i := 655) (by decide +kernel), List.mem_of_getElem? (i := 656) (by decide +kernel)⟩
theorem lw_p18 : lw_okq (⟨"BarrierMarks", "markKeptBy", "(II)LBarrierMarks$Mark;"⟩, 10) := ⟨⟨by decide +kernel, by decide +kernel⟩, List.mem_of_getElem? (i := 18) (by decide +kernel), List.mem_of_getElem? (i := 690) (by decide +kernel), List.mem_of_getElem? (i := 691) (by decide +kernel)⟩
theorem lw_p19 : lw_okq (⟨"BarrierMarks", "carryAlone", "(I)V"⟩, 10) := ⟨⟨by decide +kernel, by decide +kernel⟩, List.mem_of_getElem? (i := 18) (by decide +kernel), List.mem_of_getElem? (i := 730) (by decide +kernel), List.mem_of_getElem? (i := 731) (by decide +kernel)⟩
theorem lw_p20 : lw_okq (⟨"BarrierMarks", "carryInto", "(LBarrierMarks$Task;I)V"⟩, 10) := ⟨⟨by decide +kernel, by decide +kernel⟩, List.mem_of_getElem? (i := 18) (by decide +kernel), List.mem_of_getElem? (i := 734) (by decide +kernel), List.mem_of_getElem? (i := 735) (by decide +kernel)⟩
theorem lw_p21 : lw_okq (⟨"BarrierMarks", "lineWith", "(II)LBarrierMarks$Line;"⟩, 10) := ⟨⟨by decide +kernel, by decide +kernel⟩, List.mem_of_getElem? (i := 18) (by decide +kernel), List.mem_of_getElem? (i := 759) (by decide +kernel), List.mem_of_getElem? (i := 760) (by decide +kernel)⟩
theorem lw_p22 : lw_okq (⟨"BarrierMarksModel", "isTask", "(I)Z"⟩, 34) := ⟨⟨by decide +kernel, by decide +kernel⟩, List.mem_of_getElem? (i := 779) (by decide +kernel), List.mem_of_getElem? (i := 896) (by decide +kernel), List.mem_of_getElem? (i := 897) (by decide +kernel)⟩
theorem lw_p23 : lw_okq (⟨"BarrierMarksModel", "reached", "(I)I"⟩, 34) := ⟨⟨by decide +kernel, by decide +kernel⟩, List.mem_of_getElem? (i := 779) (by decide +kernel), List.mem_of_getElem? (i := 900) (by decide +kernel), List.mem_of_getElem? (i := 901) (by decide +kernel)⟩
theorem lw_p24 : lw_okq (⟨"BarrierMarksModel", "hasInto", "(I)Z"⟩, 34) := ⟨⟨by decide +kernel, by decide +kernel⟩, List.mem_of_getElem? (i := 779) (by decide +kernel), List.mem_of_getElem? (i := 904) (by decide +kernel), List.mem_of_getElem? (i := 905) (by decide +kernel)⟩
theorem lw_p25 : lw_okq (⟨"BarrierMarksModel", "isChannel", "(I)Z"⟩, 34) := ⟨⟨by decide +kernel, by decide +kernel⟩, List.mem_of_getElem? (i := 779) (by decide +kernel), List.mem_of_getElem? (i := 912) (by decide +kernel), List.mem_of_getElem? (i := 913) (by decide +kernel)⟩
theorem lw_p26 : lw_okq (⟨"BarrierMarksModel", "isSource", "(I)Z"⟩, 34) := ⟨⟨by decide +kernel, by decide +kernel⟩, List.mem_of_getElem? (i := 779) (by decide +kernel), List.mem_of_getElem? (i := 916) (by decide +kernel), List.mem_of_getElem? (i := 917) (by decide +kernel)⟩
theorem lw_p27 : lw_okq (⟨"BarrierMarksModel", "begun", "()I"⟩, 34) := ⟨⟨by decide +kernel, by decide +kernel⟩, List.mem_of_getElem? (i := 779) (by decide +kernel), List.mem_of_getElem? (i := 928) (by decide +kernel), List.mem_of_getElem? (i := 929) (by decide +kernel)⟩
theorem lw_p28 : lw_okq (⟨"BarrierMarksModel", "keep", "(II)V"⟩, 34) := ⟨⟨by decide +kernel, by decide +kernel⟩, List.mem_of_getElem? (i := 779) (by decide +kernel), List.mem_of_getElem? (i := 932) (by decide +kernel), List.mem_of_getElem? (i := 933) (by decide +kernel)⟩
theorem lw_p29 : lw_okq (⟨"BarrierMarksModel", "sent", "(II)V"⟩, 34) := ⟨⟨by decide +kernel, by decide +kernel⟩, List.mem_of_getElem? (i := 779) (by decide +kernel), List.mem_of_getElem? (i := 936) (by decide +kernel), List.mem_of_getElem? (i := 937) (by decide +kernel)⟩
theorem lw_p30 : lw_okq (⟨"BarrierMarksModel", "keeper", "()I"⟩, 34) := ⟨⟨by decide +kernel, by decide +kernel⟩, List.mem_of_getElem? (i := 779) (by decide +kernel), List.mem_of_getElem? (i := 944) (by decide +kernel), List.mem_of_getElem? (i := 945) (by decide +kernel)⟩
theorem lw_p31 : lw_okq (⟨"BarrierMarksModel", "count", "(I)I"⟩, 34) := ⟨⟨by decide +kernel, by decide +kernel⟩, List.mem_of_getElem? (i := 779) (by decide +kernel), List.mem_of_getElem? (i := 948) (by decide +kernel), List.mem_of_getElem? (i := 949) (by decide +kernel)⟩
def lw_privs_2 : List (MethodName × Nat) := [(⟨"BarrierMarks", "completeMarkAt", "(I)LBarrierMarks$Mark;"⟩, 10), (⟨"BarrierMarks", "hasEnded", "(I)Z"⟩, 10), (⟨"BarrierMarks", "markKeptBy", "(II)LBarrierMarks$Mark;"⟩, 10), (⟨"BarrierMarks", "carryAlone", "(I)V"⟩, 10), (⟨"BarrierMarks", "carryInto", "(LBarrierMarks$Task;I)V"⟩, 10), (⟨"BarrierMarks", "lineWith", "(II)LBarrierMarks$Line;"⟩, 10), (⟨"BarrierMarksModel", "isTask", "(I)Z"⟩, 34), (⟨"BarrierMarksModel", "reached", "(I)I"⟩, 34), (⟨"BarrierMarksModel", "hasInto", "(I)Z"⟩, 34), (⟨"BarrierMarksModel", "isChannel", "(I)Z"⟩, 34), (⟨"BarrierMarksModel", "isSource", "(I)Z"⟩, 34), (⟨"BarrierMarksModel", "begun", "()I"⟩, 34), (⟨"BarrierMarksModel", "keep", "(II)V"⟩, 34), (⟨"BarrierMarksModel", "sent", "(II)V"⟩, 34), (⟨"BarrierMarksModel", "keeper", "()I"⟩, 34), (⟨"BarrierMarksModel", "count", "(I)I"⟩, 34)]
theorem lw_r2 : ∀ q ∈ lw_privs_2, lw_okq q := List.forall_mem_cons.mpr ⟨lw_p16, List.forall_mem_cons.mpr ⟨lw_p17, List.forall_mem_cons.mpr ⟨lw_p18, List.forall_mem_cons.mpr ⟨lw_p19, List.forall_mem_cons.mpr ⟨lw_p20, List.forall_mem_cons.mpr ⟨lw_p21, List.forall_mem_cons.mpr ⟨lw_p22, List.forall_mem_cons.mpr ⟨lw_p23, List.forall_mem_cons.mpr ⟨lw_p24, List.forall_mem_cons.mpr ⟨lw_p25, List.forall_mem_cons.mpr ⟨lw_p26, List.forall_mem_cons.mpr ⟨lw_p27, List.forall_mem_cons.mpr ⟨lw_p28, List.forall_mem_cons.mpr ⟨lw_p29, List.forall_mem_cons.mpr ⟨lw_p30, List.forall_mem_cons.mpr ⟨lw_p31, fun _ h => absurd h List.not_mem_nil⟩⟩⟩⟩⟩⟩⟩⟩⟩⟩⟩⟩⟩⟩⟩⟩
theorem lw_p32 : lw_okq (⟨"BarrierMarksModel", "close", "(II)V"⟩, 34) := ⟨⟨by decide +kernel, by decide +kernel⟩, List.mem_of_getElem? (i := 779) (by decide +kernel), List.mem_of_getElem? (i := 952) (by decide +kernel), List.mem_of_getElem? (i := 953) (by decide +kernel)⟩
theorem lw_p33 : lw_okq (⟨"BarrierMarksModel", "gone", "(II)V"⟩, 34) := ⟨⟨by decide +kernel, by decide +kernel⟩, List.mem_of_getElem? (i := 779) (by decide +kernel), List.mem_of_getElem? (i := 956) (by decide +kernel), List.mem_of_getElem? (i := 957) (by decide +kernel)⟩
theorem lw_p34 : lw_okq (⟨"BarrierMarksModel", "go", "(I)I"⟩, 34) := ⟨⟨by decide +kernel, by decide +kernel⟩, List.mem_of_getElem? (i := 779) (by decide +kernel), List.mem_of_getElem? (i := 960) (by decide +kernel), List.mem_of_getElem? (i := 961) (by decide +kernel)⟩
theorem lw_p35 : lw_okq (⟨"BarrierMarksModel", "hasCredit", "(I)Z"⟩, 34) := ⟨⟨by decide +kernel, by decide +kernel⟩, List.mem_of_getElem? (i := 779) (by decide +kernel), List.mem_of_getElem? (i := 964) (by decide +kernel), List.mem_of_getElem? (i := 965) (by decide +kernel)⟩
theorem lw_p36 : lw_okq (⟨"BarrierMarksModel", "give", "(IIJ)V"⟩, 34) := ⟨⟨by decide +kernel, by decide +kernel⟩, List.mem_of_getElem? (i := 779) (by decide +kernel), List.mem_of_getElem? (i := 968) (by decide +kernel), List.mem_of_getElem? (i := 969) (by decide +kernel)⟩
theorem lw_p37 : lw_okq (⟨"BarrierMarksModel", "next", "(I)I"⟩, 34) := ⟨⟨by decide +kernel, by decide +kernel⟩, List.mem_of_getElem? (i := 779) (by decide +kernel), List.mem_of_getElem? (i := 972) (by decide +kernel), List.mem_of_getElem? (i := 973) (by decide +kernel)⟩
theorem lw_p38 : lw_okq (⟨"BarrierMarksModel", "barrierOf", "(I)I"⟩, 34) := ⟨⟨by decide +kernel, by decide +kernel⟩, List.mem_of_getElem? (i := 779) (by decide +kernel), List.mem_of_getElem? (i := 976) (by decide +kernel), List.mem_of_getElem? (i := 977) (by decide +kernel)⟩
theorem lw_p39 : lw_okq (⟨"BarrierMarksModel", "take", "(II)I"⟩, 34) := ⟨⟨by decide +kernel, by decide +kernel⟩, List.mem_of_getElem? (i := 779) (by decide +kernel), List.mem_of_getElem? (i := 980) (by decide +kernel), List.mem_of_getElem? (i := 981) (by decide +kernel)⟩
theorem lw_p40 : lw_okq (⟨"BarrierMarksModel", "isMark", "(I)Z"⟩, 34) := ⟨⟨by decide +kernel, by decide +kernel⟩, List.mem_of_getElem? (i := 779) (by decide +kernel), List.mem_of_getElem? (i := 995) (by decide +kernel), List.mem_of_getElem? (i := 996) (by decide +kernel)⟩
theorem lw_p41 : lw_okq (⟨"BarrierMarksModel", "carried", "(II)V"⟩, 34) := ⟨⟨by decide +kernel, by decide +kernel⟩, List.mem_of_getElem? (i := 779) (by decide +kernel), List.mem_of_getElem? (i := 1043) (by decide +kernel), List.mem_of_getElem? (i := 1044) (by decide +kernel)⟩
theorem lw_p42 : lw_okq (⟨"BarrierMarksModel", "isThing", "(II)Z"⟩, 34) := ⟨⟨by decide +kernel, by decide +kernel⟩, List.mem_of_getElem? (i := 779) (by decide +kernel), List.mem_of_getElem? (i := 1059) (by decide +kernel), List.mem_of_getElem? (i := 1060) (by decide +kernel)⟩
def lw_privs_3 : List (MethodName × Nat) := [(⟨"BarrierMarksModel", "close", "(II)V"⟩, 34), (⟨"BarrierMarksModel", "gone", "(II)V"⟩, 34), (⟨"BarrierMarksModel", "go", "(I)I"⟩, 34), (⟨"BarrierMarksModel", "hasCredit", "(I)Z"⟩, 34), (⟨"BarrierMarksModel", "give", "(IIJ)V"⟩, 34), (⟨"BarrierMarksModel", "next", "(I)I"⟩, 34), (⟨"BarrierMarksModel", "barrierOf", "(I)I"⟩, 34), (⟨"BarrierMarksModel", "take", "(II)I"⟩, 34), (⟨"BarrierMarksModel", "isMark", "(I)Z"⟩, 34), (⟨"BarrierMarksModel", "carried", "(II)V"⟩, 34), (⟨"BarrierMarksModel", "isThing", "(II)Z"⟩, 34)]
theorem lw_r3 : ∀ q ∈ lw_privs_3, lw_okq q := List.forall_mem_cons.mpr ⟨lw_p32, List.forall_mem_cons.mpr ⟨lw_p33, List.forall_mem_cons.mpr ⟨lw_p34, List.forall_mem_cons.mpr ⟨lw_p35, List.forall_mem_cons.mpr ⟨lw_p36, List.forall_mem_cons.mpr ⟨lw_p37, List.forall_mem_cons.mpr ⟨lw_p38, List.forall_mem_cons.mpr ⟨lw_p39, List.forall_mem_cons.mpr ⟨lw_p40, List.forall_mem_cons.mpr ⟨lw_p41, List.forall_mem_cons.mpr ⟨lw_p42, fun _ h => absurd h List.not_mem_nil⟩⟩⟩⟩⟩⟩⟩⟩⟩⟩⟩
def lw_privs : List (MethodName × Nat) := lw_privs_1 ++ (lw_privs_2 ++ (lw_privs_3))
def lw_tbl : List Cond := k2_sels lw_privs ++ tables_1
theorem lw_privs_ok : ∀ q ∈ lw_privs, lw_okq q := by
  show ∀ q ∈ lw_privs_1 ++ (lw_privs_2 ++ (lw_privs_3)), lw_okq q
  exact List.forall_mem_append.mpr ⟨lw_r1, List.forall_mem_append.mpr ⟨lw_r2, lw_r3⟩⟩
end
section
/-! CLASSES OF THE WORLD, their fields (declarer, name, descriptor, final), the tags of arrays; zTs: the words that hold wherever the tables do -/
def zTs : List Cond := lw_tbl.filter goodWord
theorem zTs_in : ∀ w ∈ zTs, w ∈ lw_tbl := fun _ h => (List.mem_filter.mp h).1
theorem zTs_good : GoodIn zTs zTs := fun w h => ⟨h, good_of_word (List.mem_filter.mp h).2⟩
theorem zm {l : List Cond} {w : Cond} (i : Nat) (hl : ∀ v ∈ l, v ∈ tables_1) (h : l[i]? = some w) (g : goodWord w = true) : w ∈ zTs := List.mem_filter.mpr ⟨List.mem_append_right _ (hl w (List.mem_of_getElem? h)), g⟩
theorem zmp {w : Cond} (h : w ∈ k2_sels lw_privs) (g : goodWord w = true) : w ∈ zTs := List.mem_filter.mpr ⟨List.mem_append_left _ h, g⟩
theorem zq1 : ∀ v ∈ tables_1_1, v ∈ tables_1 := fun _ h => List.mem_append_left _ h
theorem zq2 : ∀ v ∈ tables_1_2, v ∈ tables_1 := fun _ h => List.mem_append_right _ (List.mem_append_left _ h)
theorem zq3 : ∀ v ∈ tables_1_3, v ∈ tables_1 := fun _ h => List.mem_append_right _ (List.mem_append_right _ (List.mem_append_left _ h))
theorem zq4 : ∀ v ∈ tables_1_4, v ∈ tables_1 := fun _ h => List.mem_append_right _ (List.mem_append_right _ (List.mem_append_right _ (List.mem_append_left _ h)))
theorem zq5 : ∀ v ∈ tables_1_5, v ∈ tables_1 := fun _ h => List.mem_append_right _ (List.mem_append_right _ (List.mem_append_right _ (List.mem_append_right _ h)))
def zC0 : String := "BarrierMarks$AckRow"
def zT0 : u_T := fun k => match k with
  | 0 => ("BarrierMarks$AckRow", "markOf", "[I", true)
  | 1 => ("BarrierMarks$AckRow", "taskOf", "[I", true)
  | 2 => ("BarrierMarks$AckRow", "first", "I", false)
  | _ => ("BarrierMarks$AckRow", "size", "I", false)
def zty0 : Nat → FieldType := fun k => match k with
  | 0 => (.array .int)
  | 1 => (.array .int)
  | 2 => .int
  | _ => .int
def zfs0 : List Value := [.null, .null, .int 0, .int 0]
def zC1 : String := "BarrierMarks$Source"
def zT1 : u_T := fun k => match k with
  | 0 => ("BarrierMarks$Channel", "from", "I", true)
  | 1 => ("BarrierMarks$Channel", "to", "I", true)
  | 2 => ("BarrierMarks$Channel", "heldFor", "I", false)
  | 3 => ("BarrierMarks$Channel", "ended", "Z", false)
  | 4 => ("BarrierMarks$Source", "log", "[J", true)
  | 5 => ("BarrierMarks$Source", "rowsAhead", "[I", true)
  | 6 => ("BarrierMarks$Source", "sumsAhead", "[J", true)
  | 7 => ("BarrierMarks$Source", "due", "[I", true)
  | 8 => ("BarrierMarks$Source", "dueCount", "I", false)
  | 9 => ("BarrierMarks$Source", "logged", "I", false)
  | 10 => ("BarrierMarks$Source", "loggedSum", "J", false)
  | 11 => ("BarrierMarks$Source", "stands", "I", false)
  | _ => ("BarrierMarks$Source", "finished", "Z", false)
def zty1 : Nat → FieldType := fun k => match k with
  | 0 => .int
  | 1 => .int
  | 2 => .int
  | 3 => .boolean
  | 4 => (.array .long)
  | 5 => (.array .int)
  | 6 => (.array .long)
  | 7 => (.array .int)
  | 8 => .int
  | 9 => .int
  | 10 => .long
  | 11 => .int
  | _ => .boolean
def zfs1 : List Value := [.int 0, .int 0, .int 0, .int 0, .null, .null, .null, .null, .int 0, .int 0, .long 0, .int 0, .int 0]
def zC2 : String := "BarrierMarks$Line"
def zT2 : u_T := fun k => match k with
  | 0 => ("BarrierMarks$Channel", "from", "I", true)
  | 1 => ("BarrierMarks$Channel", "to", "I", true)
  | 2 => ("BarrierMarks$Channel", "heldFor", "I", false)
  | 3 => ("BarrierMarks$Channel", "ended", "Z", false)
  | 4 => ("BarrierMarks$Line", "kinds", "[I", true)
  | 5 => ("BarrierMarks$Line", "values", "[J", true)
  | _ => ("BarrierMarks$Line", "size", "I", false)
def zty2 : Nat → FieldType := fun k => match k with
  | 0 => .int
  | 1 => .int
  | 2 => .int
  | 3 => .boolean
  | 4 => (.array .int)
  | 5 => (.array .long)
  | _ => .int
def zfs2 : List Value := [.int 0, .int 0, .int 0, .int 0, .null, .null, .int 0]
def zC3 : String := "BarrierMarks$Mark"
def zT3 : u_T := fun k => match k with
  | 0 => ("BarrierMarks$Mark", "number", "I", true)
  | 1 => ("BarrierMarks$Mark", "kept", "[Z", true)
  | 2 => ("BarrierMarks$Mark", "failing", "[Z", true)
  | 3 => ("BarrierMarks$Mark", "acked", "[Z", true)
  | 4 => ("BarrierMarks$Mark", "sums", "[J", true)
  | 5 => ("BarrierMarks$Mark", "rows", "[I", true)
  | 6 => ("BarrierMarks$Mark", "ended", "[Z", true)
  | 7 => ("BarrierMarks$Mark", "ackedCount", "I", false)
  | _ => ("BarrierMarks$Mark", "condition", "I", false)
def zty3 : Nat → FieldType := fun k => match k with
  | 0 => .int
  | 1 => (.array .boolean)
  | 2 => (.array .boolean)
  | 3 => (.array .boolean)
  | 4 => (.array .long)
  | 5 => (.array .int)
  | 6 => (.array .boolean)
  | 7 => .int
  | _ => .int
def zfs3 : List Value := [.int 0, .null, .null, .null, .null, .null, .null, .int 0, .int 0]
def zC4 : String := "BarrierMarks$Task"
def zT4 : u_T := fun k => match k with
  | 0 => ("BarrierMarks$Task", "number", "I", true)
  | 1 => ("BarrierMarks$Task", "into", "[LBarrierMarks$Channel;", true)
  | 2 => ("BarrierMarks$Task", "out", "[LBarrierMarks$Line;", true)
  | 3 => ("BarrierMarks$Task", "intoCount", "I", false)
  | 4 => ("BarrierMarks$Task", "outCount", "I", false)
  | 5 => ("BarrierMarks$Task", "lookFrom", "I", false)
  | 6 => ("BarrierMarks$Task", "sum", "J", false)
  | 7 => ("BarrierMarks$Task", "rows", "I", false)
  | _ => ("BarrierMarks$Task", "ended", "Z", false)
def zty4 : Nat → FieldType := fun k => match k with
  | 0 => .int
  | 1 => (.array (.object "BarrierMarks$Channel"))
  | 2 => (.array (.object "BarrierMarks$Line"))
  | 3 => .int
  | 4 => .int
  | 5 => .int
  | 6 => .long
  | 7 => .int
  | _ => .boolean
def zfs4 : List Value := [.int 0, .null, .null, .int 0, .int 0, .int 0, .long 0, .int 0, .int 0]
def zC5 : String := "BarrierMarks"
def zT5 : u_T := fun k => match k with
  | 0 => ("BarrierMarks", "tasks", "[LBarrierMarks$Task;", true)
  | 1 => ("BarrierMarks", "channels", "[LBarrierMarks$Channel;", true)
  | 2 => ("BarrierMarks", "marks", "[LBarrierMarks$Mark;", true)
  | 3 => ("BarrierMarks", "acks", "LBarrierMarks$AckRow;", true)
  | 4 => ("BarrierMarks", "carriedSums", "[J", true)
  | 5 => ("BarrierMarks", "carriedRows", "[I", true)
  | 6 => ("BarrierMarks", "channelCount", "I", false)
  | 7 => ("BarrierMarks", "markCount", "I", false)
  | 8 => ("BarrierMarks", "begunCount", "I", false)
  | _ => ("BarrierMarks", "started", "Z", false)
def zty5 : Nat → FieldType := fun k => match k with
  | 0 => (.array (.object "BarrierMarks$Task"))
  | 1 => (.array (.object "BarrierMarks$Channel"))
  | 2 => (.array (.object "BarrierMarks$Mark"))
  | 3 => .object "BarrierMarks$AckRow"
  | 4 => (.array .long)
  | 5 => (.array .int)
  | 6 => .int
  | 7 => .int
  | 8 => .int
  | _ => .boolean
def zfs5 : List Value := [.null, .null, .null, .null, .null, .null, .int 0, .int 0, .int 0, .int 0]
def zC6 : String := "BarrierMarksModel"
def zT6 : u_T := fun k => match k with
  | 0 => ("BarrierMarksModel", "n", "I", true)
  | 1 => ("BarrierMarksModel", "code", "I", false)
  | 2 => ("BarrierMarksModel", "told", "Z", false)
  | 3 => ("BarrierMarksModel", "sum", "[J", true)
  | 4 => ("BarrierMarksModel", "rows", "[I", true)
  | 5 => ("BarrierMarksModel", "ended", "[Z", true)
  | 6 => ("BarrierMarksModel", "latest", "[I", true)
  | 7 => ("BarrierMarksModel", "channels", "I", false)
  | 8 => ("BarrierMarksModel", "from", "[I", true)
  | 9 => ("BarrierMarksModel", "to", "[I", true)
  | 10 => ("BarrierMarksModel", "kinds", "[I", true)
  | 11 => ("BarrierMarksModel", "values", "[J", true)
  | 12 => ("BarrierMarksModel", "things", "[I", true)
  | 13 => ("BarrierMarksModel", "log", "[J", true)
  | 14 => ("BarrierMarksModel", "logged", "[I", true)
  | 15 => ("BarrierMarksModel", "finished", "[Z", true)
  | 16 => ("BarrierMarksModel", "stand", "[I", true)
  | 17 => ("BarrierMarksModel", "over", "[Z", true)
  | 18 => ("BarrierMarksModel", "held", "[I", true)
  | 19 => ("BarrierMarksModel", "marks", "I", false)
  | 20 => ("BarrierMarksModel", "condition", "[I", true)
  | 21 => ("BarrierMarksModel", "position", "[I", true)
  | 22 => ("BarrierMarksModel", "came", "[Z", true)
  | 23 => ("BarrierMarksModel", "kept", "[Z", true)
  | 24 => ("BarrierMarksModel", "keptEnded", "[Z", true)
  | 25 => ("BarrierMarksModel", "keptSum", "[J", true)
  | 26 => ("BarrierMarksModel", "keptRows", "[I", true)
  | 27 => ("BarrierMarksModel", "fails", "[Z", true)
  | 28 => ("BarrierMarksModel", "taken", "[Z", true)
  | 29 => ("BarrierMarksModel", "acks", "I", false)
  | 30 => ("BarrierMarksModel", "ackMark", "[I", true)
  | 31 => ("BarrierMarksModel", "ackTask", "[I", true)
  | 32 => ("BarrierMarksModel", "allSum", "[J", true)
  | _ => ("BarrierMarksModel", "allRows", "[J", true)
def zty6 : Nat → FieldType := fun k => match k with
  | 0 => .int
  | 1 => .int
  | 2 => .boolean
  | 3 => (.array .long)
  | 4 => (.array .int)
  | 5 => (.array .boolean)
  | 6 => (.array .int)
  | 7 => .int
  | 8 => (.array .int)
  | 9 => (.array .int)
  | 10 => (.array .int)
  | 11 => (.array .long)
  | 12 => (.array .int)
  | 13 => (.array .long)
  | 14 => (.array .int)
  | 15 => (.array .boolean)
  | 16 => (.array .int)
  | 17 => (.array .boolean)
  | 18 => (.array .int)
  | 19 => .int
  | 20 => (.array .int)
  | 21 => (.array .int)
  | 22 => (.array .boolean)
  | 23 => (.array .boolean)
  | 24 => (.array .boolean)
  | 25 => (.array .long)
  | 26 => (.array .int)
  | 27 => (.array .boolean)
  | 28 => (.array .boolean)
  | 29 => .int
  | 30 => (.array .int)
  | 31 => (.array .int)
  | 32 => (.array .long)
  | _ => (.array .long)
def zfs6 : List Value := [.int 0, .int 0, .int 0, .null, .null, .null, .null, .int 0, .null, .null, .null, .null, .null, .null, .null, .null, .null, .null, .null, .int 0, .null, .null, .null, .null, .null, .null, .null, .null, .null, .int 0, .null, .null, .null, .null]
def zcl : List vw_C := [(zC0, zT0, 4), (zC1, zT1, 13), (zC2, zT2, 7), (zC3, zT3, 9), (zC4, zT4, 9), (zC5, zT5, 10), (zC6, zT6, 34)]
def ztl : List FieldType := [.int, .long, .boolean, .object "BarrierMarks$Task", .object "BarrierMarks$Channel", .object "BarrierMarks$Line", .object "BarrierMarks$Mark"]
theorem zn0 : ∀ a, a < 4 → ∀ b, b < 4 → a ≠ b → (zT0 a).2.1 ≠ (zT0 b).2.1 := by decide +kernel
theorem zt0 : ∀ k, k < 4 → parseFieldDescriptor (zT0 k).2.2.1 = some (zty0 k) := by decide +kernel
theorem zi0 : ∀ w ∈ u_ws zC0 zT0 4, w ∈ zTs := by decide +kernel
theorem zd0 : ∀ j, j < 4 → defaultValue (zty0 j) = vp_V zfs0 j := by decide +kernel
theorem zn1 : ∀ a, a < 13 → ∀ b, b < 13 → a ≠ b → (zT1 a).2.1 ≠ (zT1 b).2.1 := by decide +kernel
theorem zt1 : ∀ k, k < 13 → parseFieldDescriptor (zT1 k).2.2.1 = some (zty1 k) := by decide +kernel
theorem zi1 : ∀ w ∈ u_ws zC1 zT1 13, w ∈ zTs := by decide +kernel
theorem zd1 : ∀ j, j < 13 → defaultValue (zty1 j) = vp_V zfs1 j := by decide +kernel
theorem zn2 : ∀ a, a < 7 → ∀ b, b < 7 → a ≠ b → (zT2 a).2.1 ≠ (zT2 b).2.1 := by decide +kernel
theorem zt2 : ∀ k, k < 7 → parseFieldDescriptor (zT2 k).2.2.1 = some (zty2 k) := by decide +kernel
theorem zi2 : ∀ w ∈ u_ws zC2 zT2 7, w ∈ zTs := by decide +kernel
theorem zd2 : ∀ j, j < 7 → defaultValue (zty2 j) = vp_V zfs2 j := by decide +kernel
theorem zn3 : ∀ a, a < 9 → ∀ b, b < 9 → a ≠ b → (zT3 a).2.1 ≠ (zT3 b).2.1 := by decide +kernel
theorem zt3 : ∀ k, k < 9 → parseFieldDescriptor (zT3 k).2.2.1 = some (zty3 k) := by decide +kernel
theorem zi3 : ∀ w ∈ u_ws zC3 zT3 9, w ∈ zTs := by decide +kernel
theorem zd3 : ∀ j, j < 9 → defaultValue (zty3 j) = vp_V zfs3 j := by decide +kernel
theorem zn4 : ∀ a, a < 9 → ∀ b, b < 9 → a ≠ b → (zT4 a).2.1 ≠ (zT4 b).2.1 := by decide +kernel
theorem zt4 : ∀ k, k < 9 → parseFieldDescriptor (zT4 k).2.2.1 = some (zty4 k) := by decide +kernel
theorem zi4 : ∀ w ∈ u_ws zC4 zT4 9, w ∈ zTs := by decide +kernel
theorem zd4 : ∀ j, j < 9 → defaultValue (zty4 j) = vp_V zfs4 j := by decide +kernel
theorem zn5 : ∀ a, a < 10 → ∀ b, b < 10 → a ≠ b → (zT5 a).2.1 ≠ (zT5 b).2.1 := by decide +kernel
theorem zt5 : ∀ k, k < 10 → parseFieldDescriptor (zT5 k).2.2.1 = some (zty5 k) := by decide +kernel
theorem zi5 : ∀ w ∈ u_ws zC5 zT5 10, w ∈ zTs := by decide +kernel
theorem zd5 : ∀ j, j < 10 → defaultValue (zty5 j) = vp_V zfs5 j := by decide +kernel
theorem zn6 : ∀ a, a < 34 → ∀ b, b < 34 → a ≠ b → (zT6 a).2.1 ≠ (zT6 b).2.1 := by decide +kernel
theorem zt6 : ∀ k, k < 34 → parseFieldDescriptor (zT6 k).2.2.1 = some (zty6 k) := by decide +kernel
theorem zi6 : ∀ w ∈ u_ws zC6 zT6 34, w ∈ zTs := by decide +kernel
theorem zd6 : ∀ j, j < 34 → defaultValue (zty6 j) = vp_V zfs6 j := by decide +kernel
end
section
/-! ABSTRACT HEAPS. A heap is seen as a map V from addresses to cells (arrays with the tag of their type, objects with the number of their class), and its size n. Contracts speak of the whole map: nothing has to be cut out or joined. -/
abbrev zE : Type := (Nat × vp_A) ⊕ (Nat × List Value)
abbrev zV : Type := Nat → Option zE
/-- how a method ends: its answer, or the class of what it throws; the map and the size behind it -/
abbrev zR : Type := (Option Value ⊕ String) × zV × Nat
def z_e (dA : Nat → ClassId) (x : zE) : va_E := match x with
  | .inl q => .inl (dA q.1, q.2)
  | .inr o => .inr o
def z_P (D : va_G) (dA : Nat → ClassId) (cl : List vw_C) (V : zV) (H : Heap) : Prop := ∀ (a : Nat) (x : zE), V a = some x → va_at D cl (a, z_e dA x) H
def z_up (V : zV) (a : Nat) (x : zE) : zV := fun q => if q = a then some x else V q
def z_A (V : zV) (n : Nat) : Nat → Prop := fun q => (∃ x, V q = some x) ∨ n ≤ q
/-- the machine's heap H holds V, is of size n, and since H0 nothing outside A was written -/
def z_H (D : va_G) (dA : Nat → ClassId) (cl : List vw_C) (A : Nat → Prop) (H0 : Heap) (V : zV) (n : Nat) (H : Heap) (locs : List Loc) : Prop := va_S A H0 H locs ∧ H.size = n ∧ z_P D dA cl V H ∧ ∀ (a : Nat) (x : zE), V a = some x → A a
theorem z_P.lt {D : va_G} {dA : Nat → ClassId} {cl : List vw_C} {V : zV} {H : Heap} (h : z_P D dA cl V H) {a : Nat} {x : zE} (ha : V a = some x) : a < H.size := (h a x ha).lt
theorem z_P.one {D : va_G} {dA : Nat → ClassId} {cl : List vw_C} {V : zV} {H : Heap} (h : z_P D dA cl V H) {a : Nat} {x : zE} (ha : V a = some x) : va_P D cl [(a, z_e dA x)] H := by
  intro k q hq
  have hk : k < 1 := (List.getElem?_eq_some_iff.mp hq).1
  rw [show k = 0 by omega] at hq
  cases hq
  exact h a x ha
theorem z_P.put {D : va_G} {dA : Nat → ClassId} {cl : List vw_C} {V : zV} {H H1 : Heap} (h : z_P D dA cl V H) {a : Nat} {x : zE} (he : va_at D cl (a, z_e dA x) H1) (oq : ∀ q : Nat, q ≠ a → q < H.size → H1[q]? = H[q]?) : z_P D dA cl (z_up V a x) H1 := by
  intro b y hb
  unfold z_up at hb
  by_cases e : b = a
  · rw [if_pos e] at hb
    cases hb
    rw [e]; exact he
  · rw [if_neg e] at hb
    exact (h b y hb).kept (oq b e (h.lt hb))
theorem z_H.put {D : va_G} {dA : Nat → ClassId} {cl : List vw_C} {A : Nat → Prop} {H0 H H1 : Heap} {V : zV} {n : Nat} {locs : List Loc} (h : z_H D dA cl A H0 V n H locs) {a k : Nat} {x0 x : zE} (ha : V a = some x0) (he : va_at D cl (a, z_e dA x) H1) (z : H1.size = H.size) (oq : ∀ q : Nat, q ≠ a → H1[q]? = H[q]?) : z_H D dA cl A H0 (z_up V a x) n H1 (locs ++ [⟨a, k⟩]) := by
  obtain ⟨hS, hn, hP, hA⟩ := h
  refine ⟨hS.put z oq (hA a x0 ha), z.trans hn, hP.put he (fun q h1 _ => oq q h1), fun b y hb => ?_⟩
  unfold z_up at hb
  by_cases e : b = a
  · rw [e]; exact hA a x0 ha
  · rw [if_neg e] at hb
    exact hA b y hb
theorem z_H.push {D : va_G} {dA : Nat → ClassId} {cl : List vw_C} {A : Nat → Prop} {H0 H H1 : Heap} {V : zV} {n : Nat} {locs : List Loc} (h : z_H D dA cl A H0 V n H locs) (hA9 : ∀ q, H0.size ≤ q → A q) {x : zE} (he : va_at D cl (n, z_e dA x) H1) (z : H1.size = n + 1) (oq : ∀ q : Nat, q < n → H1[q]? = H[q]?) : z_H D dA cl A H0 (z_up V n x) (n + 1) H1 locs := by
  obtain ⟨hS, hn, hP, hA⟩ := h
  refine ⟨⟨Nat.le_trans hS.1 (by omega), fun q h1 h2 => (oq q (by have := hS.1; omega)).trans (hS.2.1 q h1 h2), hS.2.2⟩, z, hP.put he (fun q h1 h2 => oq q (by omega)), fun b y hb => ?_⟩
  unfold z_up at hb
  by_cases e : b = n
  · rw [e]; exact hA9 n (by rw [← hn]; exact hS.1)
  · rw [if_neg e] at hb
    exact hA b y hb
/-! THE METHOD'S CONTEXT. zcl: the classes of the worlds; ztl: the types of arrays, by their tags; zTs: the tables' words -/
abbrev zX : Type := Program × Launch × Env × Room × State × MethodId × Array Value × List Frame × Method × Code × va_G × (Nat → ClassId) × zV × Nat × Nat × Nat
def zstr : List (String × Nat × String) := [("BarrierMarks", 260, "no such task"), ("BarrierMarks", 68, "no more channels can be made"), ("BarrierMarks", 89, "a ring, or a task without a channel into it"), ("BarrierMarks", 262, "no such channel"), ("BarrierMarks", 242, "the channel is no source"), ("BarrierMarks", 111, "the log has its end, or is full"), ("BarrierMarks", 117, "the log has its end"), ("BarrierMarks", 125, "three marks are begun, or there are forty"), ("BarrierMarks", 267, "no such mark"), ("BarrierMarks", 146, "turns are 1 to 2000"), ("BarrierMarks", 269, "the mark is not begun"), ("BarrierMarks", 170, "the task has kept, or was told so already"), ("BarrierMarks", 175, "the task has not kept, or 200 acks wait"), ("BarrierMarks", 271, "the mark is not complete"), ("BarrierMarks", 219, "what is 0 or 1"), ("BarrierMarks", 273, "the task has not kept for the mark"), ("BarrierMarks", 265, "a source, or no such thing"), ("BarrierMarks", 258, "what is 0 to 3")]
def znc : List (String × String) := [("BarrierMarks$Line", "BarrierMarks$Source"), ("BarrierMarks$Source", "BarrierMarks$Line")]
def zcast : List (String × String) := [("java/lang/IndexOutOfBoundsException", "java/lang/IndexOutOfBoundsException"), ("java/lang/IllegalStateException", "java/lang/IllegalStateException"), ("java/lang/IllegalArgumentException", "java/lang/IllegalArgumentException"), ("BarrierMarks$Source", "BarrierMarks$Source"), ("BarrierMarks$Line", "BarrierMarks$Line"), ("BarrierMarks$Line", "BarrierMarks$Channel"), ("BarrierMarks$Source", "BarrierMarks$Channel")]
def zdecl : List MethodName := [⟨"BarrierMarks$Channel", "beginMark", "(I)V"⟩, ⟨"BarrierMarks$Channel", "dropBarrier", "(I)V"⟩, ⟨"BarrierMarks$Channel", "nextKind", "()I"⟩, ⟨"BarrierMarks$Channel", "nextValue", "()J"⟩, ⟨"BarrierMarks$Channel", "passNext", "()V"⟩, ⟨"BarrierMarks$Channel", "goBack", "(I)V"⟩, ⟨"BarrierMarks$Channel", "left", "()I"⟩, ⟨"java/lang/RuntimeException", "<init>", "(Ljava/lang/String;)V"⟩, ⟨"java/lang/Exception", "<init>", "(Ljava/lang/String;)V"⟩, ⟨"java/lang/Throwable", "<init>", "(Ljava/lang/String;)V"⟩]
def zao : List String := ["BarrierMarks$Task", "BarrierMarks$Channel", "BarrierMarks$Line", "BarrierMarks$Mark"]
/-- what a throw needs of the statics, the String constants, the casts, the abstract methods, the private constructor of a nest mate -/
def zT (A : Nat → Prop) (s : State) : Prop := vx_Zq Bundle.tN "UNASSIGNED_STACK" Bundle.steD A s s.heap ∧ vx_Zq Bundle.tN "SUPPRESSED_SENTINEL" Bundle.listD A s s.heap ∧ (∀ q ∈ zstr, ∃ sa : Nat, vk_R q.1 q.2.1 q.2.2 sa s) ∧ (∀ q ∈ znc, va_Nc q.1 q.2 s) ∧ (∀ q ∈ zcast, va_Nw (.castable q.1 q.2) s) ∧ (∀ y ∈ zdecl, va_Nw (.declares y) s) ∧ va_Nw (.methodLinkNest "BarrierMarks" 23 ⟨"BarrierMarks$AckRow", "<init>", "()V"⟩ "BarrierMarks") s ∧ ∀ E ∈ zao, va_AO E s
theorem zT.move {A B : Nat → Prop} {s U : State} {H : Heap} {locs : List Loc} (h : zT A s) (hS : va_S A s.heap H locs) (hU : U.heap = H) (hW : s.WarmedH U.vm) (hAB : ∀ q, B q → A q) : zT B U := by
  obtain ⟨h1, h2, h3, h4, h5, h6, h7, h8⟩ := h
  refine ⟨?_, ?_, fun q hq => ?_, fun q hq => (h4 q hq).moved hW.alike, fun q hq => va_Nw.warmC hW (h5 q hq), fun y hy => va_Nw.warmD hW (h6 y hy), va_Nw.warmM hW h7, fun E hE => (h8 E hE).moved hW.alike⟩
  · rw [hU]; exact ((h1.kept hS.2.1).moved hW.alike).narrow hAB
  · rw [hU]; exact ((h2.kept hS.2.1).moved hW.alike).narrow hAB
  · obtain ⟨sa, h⟩ := h3 q hq
    exact ⟨sa, h.warm hW⟩
/-- what the tables say of classes and arrays, and what a throw needs of the statics -/
def zK (D : va_G) (dA : Nat → ClassId) (A : Nat → Prop) (s : State) : Prop := va_K D zcl [] s ∧ (∀ (t : Nat) (ty : FieldType), ztl[t]? = some ty → ArrOfT s (dA t) ty ∧ va_RA s (dA t) ty) ∧ zT A s
theorem zK.arr {D : va_G} {dA : Nat → ClassId} {A : Nat → Prop} {s : State} (h : zK D dA A s) {t : Nat} {ty : FieldType} (ht : ztl[t]? = some ty) : va_K D zcl [(dA t, ty)] s := by
  refine ⟨h.1.1, fun k q hk => ?_⟩
  have hk0 : k < 1 := (List.getElem?_eq_some_iff.mp hk).1
  rw [show k = 0 by omega] at hk
  cases hk
  exact h.2.1 t ty ht
def z_W (D : va_G) (dA : Nat → ClassId) (V0 : zV) (n0 : Nat) (V : zV) (st t : State) : Prop := z_P D dA zcl V t.heap ∧ (∀ (a : Nat) (x : zE), V a = some x → z_A V0 n0 a) ∧ va_F (z_A V0 n0) st t
def z_Q (D : va_G) (dA : Nat → ClassId) (V0 : zV) (n0 : Nat) (w : zR) : Array Value → State → Outcome → State → Prop := fun _ st o t => ∃ v : Option Value, w.1 = .inl v ∧ o = .returned v ∧ t.heap.size = w.2.2 ∧ z_W D dA V0 n0 w.2.1 st t
def z_XC (D : va_G) (dA : Nat → ClassId) (V0 : zV) (n0 : Nat) (w : zR) : String → State → State → Prop := fun E st t => w.1 = .inr E ∧ z_W D dA V0 n0 w.2.1 st t
/-- at frame (pc, locals lv, stack st), over the map V of size n: the method comes to the end w -/
def zZ (x : zX) (nL cells slots : Nat) (w : zR) (V : zV) (n pc : Nat) (lv : List (Nat × Value)) (st : List Value) : Prop := match x with
  | (p, l, e, R, s, m, args, below, meth, c, D, dA, V0, n0, mc, ms) => ∀ (H : Heap) (locs : List Loc) (ls : Array Slot), z_H D dA zcl (z_A V0 n0) s.heap V n H locs → lv_has ls nL lv → W p l e R s m args below meth c H locs cells slots (vx_MQ below (z_Q D dA V0 n0 w) (z_XC D dA V0 n0 w) args s mc ms (z_A V0 n0)) (F0 m pc ls st)
def zC (x : zX) (cc : ByteArray) (own nm : String) (nL F L : Nat) (ret : Option FieldType) : Prop := match x with
  | (p, l, _, R, s, m, args, _, meth, c, D, dA, V0, n0, mc, ms) => p.tables.exec = Jvm.exec ∧ c.code = cc ∧ c.maxLocals = nL ∧ s.vm.findClass own = some m.cls ∧ (∀ w ∈ zTs, w.before args s = true) ∧ zK D dA (z_A V0 n0) s ∧ s.heap.size = n0 ∧ meth.locks = false ∧ meth.sig.returnType = ret ∧ meth.name = nm ∧ (∀ x ∈ c.exceptionTable.toList, False) ∧ l.stackTraces = false ∧ R = { frames := F, cells := mc, slots := ms, locals := L }
theorem zK.move {D : va_G} {dA : Nat → ClassId} {A B : Nat → Prop} {s U : State} {H : Heap} {locs : List Loc} (h : zK D dA A s) (hS : va_S A s.heap H locs) (hU : U.heap = H) (hW : s.WarmedH U.vm) (hAB : ∀ q, B q → A q) : zK D dA B U :=
  ⟨va_K.moved hW.alike h.1, fun t ty ht => ⟨arrOfT_moved hW.alike (h.2.1 t ty ht).1, va_RA.moved hW.alike (h.2.1 t ty ht).2⟩, h.2.2.move hS hU hW hAB⟩
end
section
/-! ROWS OF THE ABSTRACT MACHINE: each turns zZ at an instruction into zZ at the next -/
section ZR
variable {x : zX} {cc : ByteArray} {own nm : String} {nL F L : Nat} {ret : Option FieldType} {cells slots : Nat} {w : zR} {V : zV} {n pc : Nat} {lv lv' : List (Nat × Value)} {st : List Value}
theorem z_iadd (C : zC x cc own nm nL F L ret) {a b : Int32} (d : decode cc pc = .ok (.iadd, 1)) (k : zZ x nL cells slots w V n (pc + 1) lv (.int (a + b) :: st)) : zZ x nL cells slots w V n (pc) lv (.int b :: .int a :: st) := by
  obtain ⟨p, l, e, R, s, m, args, below, meth, c, D, dA, V0, n0, mc, ms⟩ := x
  exact fun H locs ls h hl => lv_iadd C.1 C.2.1 d (k H locs ls h hl)
theorem z_isub (C : zC x cc own nm nL F L ret) {a b : Int32} (d : decode cc pc = .ok (.isub, 1)) (k : zZ x nL cells slots w V n (pc + 1) lv (.int (a - b) :: st)) : zZ x nL cells slots w V n (pc) lv (.int b :: .int a :: st) := by
  obtain ⟨p, l, e, R, s, m, args, below, meth, c, D, dA, V0, n0, mc, ms⟩ := x
  exact fun H locs ls h hl => lv_isub C.1 C.2.1 d (k H locs ls h hl)
theorem z_imul (C : zC x cc own nm nL F L ret) {a b : Int32} (d : decode cc pc = .ok (.imul, 1)) (k : zZ x nL cells slots w V n (pc + 1) lv (.int (a * b) :: st)) : zZ x nL cells slots w V n (pc) lv (.int b :: .int a :: st) := by
  obtain ⟨p, l, e, R, s, m, args, below, meth, c, D, dA, V0, n0, mc, ms⟩ := x
  exact fun H locs ls h hl => lv_imul C.1 C.2.1 d (k H locs ls h hl)
theorem z_iand (C : zC x cc own nm nL F L ret) {a b : Int32} (d : decode cc pc = .ok (.iand, 1)) (k : zZ x nL cells slots w V n (pc + 1) lv (.int (a &&& b) :: st)) : zZ x nL cells slots w V n (pc) lv (.int b :: .int a :: st) := by
  obtain ⟨p, l, e, R, s, m, args, below, meth, c, D, dA, V0, n0, mc, ms⟩ := x
  exact fun H locs ls h hl => lv_iand C.1 C.2.1 d (k H locs ls h hl)
theorem z_ior (C : zC x cc own nm nL F L ret) {a b : Int32} (d : decode cc pc = .ok (.ior, 1)) (k : zZ x nL cells slots w V n (pc + 1) lv (.int (a ||| b) :: st)) : zZ x nL cells slots w V n (pc) lv (.int b :: .int a :: st) := by
  obtain ⟨p, l, e, R, s, m, args, below, meth, c, D, dA, V0, n0, mc, ms⟩ := x
  exact fun H locs ls h hl => lv_ior C.1 C.2.1 d (k H locs ls h hl)
theorem z_ixor (C : zC x cc own nm nL F L ret) {a b : Int32} (d : decode cc pc = .ok (.ixor, 1)) (k : zZ x nL cells slots w V n (pc + 1) lv (.int (a ^^^ b) :: st)) : zZ x nL cells slots w V n (pc) lv (.int b :: .int a :: st) := by
  obtain ⟨p, l, e, R, s, m, args, below, meth, c, D, dA, V0, n0, mc, ms⟩ := x
  exact fun H locs ls h hl => lv_ixor C.1 C.2.1 d (k H locs ls h hl)
theorem z_ishl (C : zC x cc own nm nL F L ret) {a b : Int32} (d : decode cc pc = .ok (.ishl, 1)) (k : zZ x nL cells slots w V n (pc + 1) lv (.int (a <<< (b &&& 31)) :: st)) : zZ x nL cells slots w V n (pc) lv (.int b :: .int a :: st) := by
  obtain ⟨p, l, e, R, s, m, args, below, meth, c, D, dA, V0, n0, mc, ms⟩ := x
  exact fun H locs ls h hl => lv_ishl C.1 C.2.1 d (k H locs ls h hl)
theorem z_ladd (C : zC x cc own nm nL F L ret) {a b : Int64} (d : decode cc pc = .ok (.ladd, 1)) (k : zZ x nL cells slots w V n (pc + 1) lv (.long (a + b) :: st)) : zZ x nL cells slots w V n (pc) lv (.long b :: .long a :: st) := by
  obtain ⟨p, l, e, R, s, m, args, below, meth, c, D, dA, V0, n0, mc, ms⟩ := x
  exact fun H locs ls h hl => lv_ladd C.1 C.2.1 d (k H locs ls h hl)
theorem z_lsub (C : zC x cc own nm nL F L ret) {a b : Int64} (d : decode cc pc = .ok (.lsub, 1)) (k : zZ x nL cells slots w V n (pc + 1) lv (.long (a - b) :: st)) : zZ x nL cells slots w V n (pc) lv (.long b :: .long a :: st) := by
  obtain ⟨p, l, e, R, s, m, args, below, meth, c, D, dA, V0, n0, mc, ms⟩ := x
  exact fun H locs ls h hl => lv_lsub C.1 C.2.1 d (k H locs ls h hl)
theorem z_lmul (C : zC x cc own nm nL F L ret) {a b : Int64} (d : decode cc pc = .ok (.lmul, 1)) (k : zZ x nL cells slots w V n (pc + 1) lv (.long (a * b) :: st)) : zZ x nL cells slots w V n (pc) lv (.long b :: .long a :: st) := by
  obtain ⟨p, l, e, R, s, m, args, below, meth, c, D, dA, V0, n0, mc, ms⟩ := x
  exact fun H locs ls h hl => lv_lmul C.1 C.2.1 d (k H locs ls h hl)
theorem z_ineg (C : zC x cc own nm nL F L ret) {a : Int32} (d : decode cc pc = .ok (.ineg, 1)) (k : zZ x nL cells slots w V n (pc + 1) lv (.int (-a) :: st)) : zZ x nL cells slots w V n (pc) lv (.int a :: st) := by
  obtain ⟨p, l, e, R, s, m, args, below, meth, c, D, dA, V0, n0, mc, ms⟩ := x
  exact fun H locs ls h hl => lv_ineg C.1 C.2.1 d (k H locs ls h hl)
theorem z_lrem (C : zC x cc own nm nL F L ret) {a b : Int64} (d : decode cc pc = .ok (.lrem, 1)) (hne : ¬ b = 0) (k : zZ x nL cells slots w V n (pc + 1) lv (.long (a - a / b * b) :: st)) : zZ x nL cells slots w V n (pc) lv (.long b :: .long a :: st) := by
  obtain ⟨p, l, e, R, s, m, args, below, meth, c, D, dA, V0, n0, mc, ms⟩ := x
  exact fun H locs ls h hl => lv_lrem C.1 C.2.1 d hne (k H locs ls h hl)
theorem z_irem (C : zC x cc own nm nL F L ret) {a b : Int32} (d : decode cc pc = .ok (.irem, 1)) (hne : ¬ b = 0) (k : zZ x nL cells slots w V n (pc + 1) lv (.int (a - a / b * b) :: st)) : zZ x nL cells slots w V n (pc) lv (.int b :: .int a :: st) := by
  obtain ⟨p, l, e, R, s, m, args, below, meth, c, D, dA, V0, n0, mc, ms⟩ := x
  exact fun H locs ls h hl => lv_irem C.1 C.2.1 d hne (k H locs ls h hl)
theorem z_ldiv (C : zC x cc own nm nL F L ret) {a b : Int64} (d : decode cc pc = .ok (.ldiv, 1)) (hne : ¬ b = 0) (k : zZ x nL cells slots w V n (pc + 1) lv (.long (a / b) :: st)) : zZ x nL cells slots w V n (pc) lv (.long b :: .long a :: st) := by
  obtain ⟨p, l, e, R, s, m, args, below, meth, c, D, dA, V0, n0, mc, ms⟩ := x
  exact fun H locs ls h hl => lv_ldiv C.1 C.2.1 d hne (k H locs ls h hl)
theorem z_idiv (C : zC x cc own nm nL F L ret) {a b : Int32} (d : decode cc pc = .ok (.idiv, 1)) (hne : ¬ b = 0) (k : zZ x nL cells slots w V n (pc + 1) lv (.int (a / b) :: st)) : zZ x nL cells slots w V n (pc) lv (.int b :: .int a :: st) := by
  obtain ⟨p, l, e, R, s, m, args, below, meth, c, D, dA, V0, n0, mc, ms⟩ := x
  exact fun H locs ls h hl => lv_idiv C.1 C.2.1 d hne (k H locs ls h hl)
theorem z_lushr (C : zC x cc own nm nL F L ret) {a : Int64} {b : Int32} (d : decode cc pc = .ok (.lushr, 1)) (k : zZ x nL cells slots w V n (pc + 1) lv (.long (a.toUInt64 >>> (b.toInt64.toUInt64 &&& Int64.toUInt64 63)).toInt64 :: st)) : zZ x nL cells slots w V n (pc) lv (.int b :: .long a :: st) := by
  obtain ⟨p, l, e, R, s, m, args, below, meth, c, D, dA, V0, n0, mc, ms⟩ := x
  exact fun H locs ls h hl => lv_lushr C.1 C.2.1 d rfl (k H locs ls h hl)
theorem z_i2l (C : zC x cc own nm nL F L ret) {a : Int32} (d : decode cc pc = .ok (.i2l, 1)) (k : zZ x nL cells slots w V n (pc + 1) lv (.long a.toInt64 :: st)) : zZ x nL cells slots w V n (pc) lv (.int a :: st) := by
  obtain ⟨p, l, e, R, s, m, args, below, meth, c, D, dA, V0, n0, mc, ms⟩ := x
  exact fun H locs ls h hl => lv_i2l C.1 C.2.1 d rfl (k H locs ls h hl)
theorem z_l2i (C : zC x cc own nm nL F L ret) {a : Int64} (d : decode cc pc = .ok (.l2i, 1)) (k : zZ x nL cells slots w V n (pc + 1) lv (.int a.toInt32 :: st)) : zZ x nL cells slots w V n (pc) lv (.long a :: st) := by
  obtain ⟨p, l, e, R, s, m, args, below, meth, c, D, dA, V0, n0, mc, ms⟩ := x
  exact fun H locs ls h hl => lv_l2i C.1 C.2.1 d rfl (k H locs ls h hl)
theorem z_lcmp (C : zC x cc own nm nL F L ret) {a b : Int64} (d : decode cc pc = .ok (.lcmp, 1)) (k : zZ x nL cells slots w V n (pc + 1) lv (.int (lg_cmp a b) :: st)) : zZ x nL cells slots w V n (pc) lv (.long b :: .long a :: st) := by
  obtain ⟨p, l, e, R, s, m, args, below, meth, c, D, dA, V0, n0, mc, ms⟩ := x
  exact fun H locs ls h hl => W.lcmp C.1 C.2.1 d (k H locs ls h hl)
theorem z_iconst (C : zC x cc own nm nL F L ret) {i : Int} {v : Int32} (d : decode cc pc = .ok (.iconst i, 1)) (hv : Int32.ofInt i = v) (k : zZ x nL cells slots w V n (pc + 1) lv (.int v :: st)) : zZ x nL cells slots w V n (pc) lv st := by
  obtain ⟨p, l, e, R, s, m, args, below, meth, c, D, dA, V0, n0, mc, ms⟩ := x
  exact fun H locs ls h hl => lv_iconst C.1 C.2.1 d hv (k H locs ls h hl)
theorem z_bipush (C : zC x cc own nm nL F L ret) {i : Int} {v : Int32} (d : decode cc pc = .ok (.bipush i, 2)) (hv : (Int8.ofInt i).toInt32 = v) (k : zZ x nL cells slots w V n (pc + 2) lv (.int v :: st)) : zZ x nL cells slots w V n (pc) lv st := by
  obtain ⟨p, l, e, R, s, m, args, below, meth, c, D, dA, V0, n0, mc, ms⟩ := x
  exact fun H locs ls h hl => lv_bipush C.1 C.2.1 d hv (k H locs ls h hl)
theorem z_sipush (C : zC x cc own nm nL F L ret) {i : Int} {v : Int32} (d : decode cc pc = .ok (.sipush i, 3)) (hv : (Int16.ofInt i).toInt32 = v) (k : zZ x nL cells slots w V n (pc + 3) lv (.int v :: st)) : zZ x nL cells slots w V n (pc) lv st := by
  obtain ⟨p, l, e, R, s, m, args, below, meth, c, D, dA, V0, n0, mc, ms⟩ := x
  exact fun H locs ls h hl => lv_sipush C.1 C.2.1 d hv (k H locs ls h hl)
theorem z_lconst (C : zC x cc own nm nL F L ret) {k : Fin 2} {v : Int64} (d : decode cc pc = .ok (.lconst k, 1)) (hv : Int64.ofNat (k : Nat) = v) (k : zZ x nL cells slots w V n (pc + 1) lv (.long v :: st)) : zZ x nL cells slots w V n (pc) lv st := by
  obtain ⟨p, l, e, R, s, m, args, below, meth, c, D, dA, V0, n0, mc, ms⟩ := x
  exact fun H locs ls h hl => lv_lconst C.1 C.2.1 d hv (k H locs ls h hl)
theorem z_ldc (C : zC x cc own nm nL F L ret) {i : Nat} {v : Int32} (d : decode cc pc = .ok (.ldc i, 2)) (hw : Cond.constant own i v ∈ zTs) (k : zZ x nL cells slots w V n (pc + 2) lv (.int v :: st)) : zZ x nL cells slots w V n (pc) lv st := by
  obtain ⟨p, l, e, R, s, m, args, below, meth, c, D, dA, V0, n0, mc, ms⟩ := x
  exact fun H locs ls h hl => lv_ldc C.1 C.2.1 C.2.2.2.1 (C.2.2.2.2.1 _ hw) d (k H locs ls h hl)
theorem z_ldc2 (C : zC x cc own nm nL F L ret) {i : Nat} {v : Int64} (d : decode cc pc = .ok (.ldc2_w i, 3)) (hw : Cond.constantLong own i v ∈ zTs) (k : zZ x nL cells slots w V n (pc + 3) lv (.long v :: st)) : zZ x nL cells slots w V n (pc) lv st := by
  obtain ⟨p, l, e, R, s, m, args, below, meth, c, D, dA, V0, n0, mc, ms⟩ := x
  exact fun H locs ls h hl => lv_ldc2 C.1 C.2.1 C.2.2.2.1 (C.2.2.2.2.1 _ hw) d (k H locs ls h hl)
theorem z_null (C : zC x cc own nm nL F L ret) (d : decode cc pc = .ok (.aconst_null, 1)) (k : zZ x nL cells slots w V n (pc + 1) lv (va_rf none :: st)) : zZ x nL cells slots w V n (pc) lv st := by
  obtain ⟨p, l, e, R, s, m, args, below, meth, c, D, dA, V0, n0, mc, ms⟩ := x
  exact fun H locs ls h hl => lv_null C.1 C.2.1 d (k H locs ls h hl)
theorem z_pop (C : zC x cc own nm nL F L ret) {v : Value} (d : decode cc pc = .ok (.pop, 1)) (hv : v.category = 1) (k : zZ x nL cells slots w V n (pc + 1) lv st) : zZ x nL cells slots w V n (pc) lv (v :: st) := by
  obtain ⟨p, l, e, R, s, m, args, below, meth, c, D, dA, V0, n0, mc, ms⟩ := x
  exact fun H locs ls h hl => lv_pop C.1 C.2.1 d hv (k H locs ls h hl)
theorem z_pop2 (C : zC x cc own nm nL F L ret) {v : Value} (d : decode cc pc = .ok (.pop2, 1)) (hv : v.category = 2) (k : zZ x nL cells slots w V n (pc + 1) lv st) : zZ x nL cells slots w V n (pc) lv (v :: st) := by
  obtain ⟨p, l, e, R, s, m, args, below, meth, c, D, dA, V0, n0, mc, ms⟩ := x
  exact fun H locs ls h hl => lv_pop2_2 C.1 C.2.1 d hv (k H locs ls h hl)
theorem z_dup (C : zC x cc own nm nL F L ret) {v : Value} (d : decode cc pc = .ok (.dup, 1)) (hv : v.category = 1) (k : zZ x nL cells slots w V n (pc + 1) lv (v :: v :: st)) : zZ x nL cells slots w V n (pc) lv (v :: st) := by
  obtain ⟨p, l, e, R, s, m, args, below, meth, c, D, dA, V0, n0, mc, ms⟩ := x
  exact fun H locs ls h hl => lv_dup C.1 C.2.1 d hv (k H locs ls h hl)
theorem z_dup_x1 (C : zC x cc own nm nL F L ret) {v u : Value} (d : decode cc pc = .ok (.dup_x1, 1)) (hv : v.category = 1) (hu : u.category = 1) (k : zZ x nL cells slots w V n (pc + 1) lv (v :: u :: v :: st)) : zZ x nL cells slots w V n (pc) lv (v :: u :: st) := by
  obtain ⟨p, l, e, R, s, m, args, below, meth, c, D, dA, V0, n0, mc, ms⟩ := x
  exact fun H locs ls h hl => lv_dup_x1 C.1 C.2.1 d hv hu (k H locs ls h hl)
theorem z_dup_x2 (C : zC x cc own nm nL F L ret) {v u t : Value} (d : decode cc pc = .ok (.dup_x2, 1)) (hv : v.category = 1) (hu : u.category = 1) (ht : t.category = 1) (k : zZ x nL cells slots w V n (pc + 1) lv (v :: u :: t :: v :: st)) : zZ x nL cells slots w V n (pc) lv (v :: u :: t :: st) := by
  obtain ⟨p, l, e, R, s, m, args, below, meth, c, D, dA, V0, n0, mc, ms⟩ := x
  exact fun H locs ls h hl => lv_dup_x2 C.1 C.2.1 d hv hu ht (k H locs ls h hl)
theorem z_dup2_11 (C : zC x cc own nm nL F L ret) {v u : Value} (d : decode cc pc = .ok (.dup2, 1)) (hv : v.category = 1) (hu : u.category = 1) (k : zZ x nL cells slots w V n (pc + 1) lv (v :: u :: v :: u :: st)) : zZ x nL cells slots w V n (pc) lv (v :: u :: st) := by
  obtain ⟨p, l, e, R, s, m, args, below, meth, c, D, dA, V0, n0, mc, ms⟩ := x
  exact fun H locs ls h hl => lv_dup2_11 C.1 C.2.1 d hv hu (k H locs ls h hl)
theorem z_dup2_2 (C : zC x cc own nm nL F L ret) {v : Value} (d : decode cc pc = .ok (.dup2, 1)) (hv : v.category = 2) (k : zZ x nL cells slots w V n (pc + 1) lv (v :: v :: st)) : zZ x nL cells slots w V n (pc) lv (v :: st) := by
  obtain ⟨p, l, e, R, s, m, args, below, meth, c, D, dA, V0, n0, mc, ms⟩ := x
  exact fun H locs ls h hl => lv_dup2_2 C.1 C.2.1 d hv (k H locs ls h hl)
end ZR
section ZS
variable {x : zX} {cc : ByteArray} {own nm : String} {nL F L : Nat} {ret : Option FieldType} {cells slots : Nat} {w : zR} {V : zV} {n pc : Nat} {lv lv' : List (Nat × Value)} {st : List Value}
theorem z_iload_n (C : zC x cc own nm nL F L ret) {k : Fin 4} {i : Nat} {a : Int32} (q : Nat) (d : decode cc pc = .ok (.iload_n k, 1)) (hi : (k : Nat) = i) (hq : lv[q]? = some (i, .int a)) (k9 : zZ x nL cells slots w V n (pc + 1) lv (.int a :: st)) : zZ x nL cells slots w V n pc lv st := by
  obtain ⟨p, l, e, R, s, m, args, below, meth, c, D, dA, V0, n0, mc, ms⟩ := x
  exact fun H locs ls h hl => lv_iload_n C.1 C.2.1 d hi (lv_at hl q hq) (k9 H locs ls h hl)
theorem z_iload (C : zC x cc own nm nL F L ret) {i : Nat} {a : Int32} (q : Nat) (d : decode cc pc = .ok (.iload i, 2)) (hq : lv[q]? = some (i, .int a)) (k9 : zZ x nL cells slots w V n (pc + 2) lv (.int a :: st)) : zZ x nL cells slots w V n pc lv st := by
  obtain ⟨p, l, e, R, s, m, args, below, meth, c, D, dA, V0, n0, mc, ms⟩ := x
  exact fun H locs ls h hl => lv_iload C.1 C.2.1 d (lv_at hl q hq) (k9 H locs ls h hl)
theorem z_lload_n (C : zC x cc own nm nL F L ret) {k : Fin 4} {i : Nat} {a : Int64} (q : Nat) (d : decode cc pc = .ok (.lload_n k, 1)) (hi : (k : Nat) = i) (hq : lv[q]? = some (i, .long a)) (k9 : zZ x nL cells slots w V n (pc + 1) lv (.long a :: st)) : zZ x nL cells slots w V n pc lv st := by
  obtain ⟨p, l, e, R, s, m, args, below, meth, c, D, dA, V0, n0, mc, ms⟩ := x
  exact fun H locs ls h hl => lv_lload_n C.1 C.2.1 d hi (lv_at hl q hq) (k9 H locs ls h hl)
theorem z_lload (C : zC x cc own nm nL F L ret) {i : Nat} {a : Int64} (q : Nat) (d : decode cc pc = .ok (.lload i, 2)) (hq : lv[q]? = some (i, .long a)) (k9 : zZ x nL cells slots w V n (pc + 2) lv (.long a :: st)) : zZ x nL cells slots w V n pc lv st := by
  obtain ⟨p, l, e, R, s, m, args, below, meth, c, D, dA, V0, n0, mc, ms⟩ := x
  exact fun H locs ls h hl => lv_lload C.1 C.2.1 d (lv_at hl q hq) (k9 H locs ls h hl)
theorem z_aload_n (C : zC x cc own nm nL F L ret) {k : Fin 4} {i : Nat} {r : Option Nat} (q : Nat) (d : decode cc pc = .ok (.aload_n k, 1)) (hi : (k : Nat) = i) (hq : lv[q]? = some (i, va_rf r)) (k9 : zZ x nL cells slots w V n (pc + 1) lv (va_rf r :: st)) : zZ x nL cells slots w V n pc lv st := by
  obtain ⟨p, l, e, R, s, m, args, below, meth, c, D, dA, V0, n0, mc, ms⟩ := x
  intro H locs ls h hl
  cases r with
  | none => exact lv_aload_nN C.1 C.2.1 d hi (lv_at hl q hq) (k9 H locs ls h hl)
  | some a => exact lv_aload_n C.1 C.2.1 d hi (lv_at hl q hq) (k9 H locs ls h hl)
theorem z_aload (C : zC x cc own nm nL F L ret) {i : Nat} {r : Option Nat} (q : Nat) (d : decode cc pc = .ok (.aload i, 2)) (hq : lv[q]? = some (i, va_rf r)) (k9 : zZ x nL cells slots w V n (pc + 2) lv (va_rf r :: st)) : zZ x nL cells slots w V n pc lv st := by
  obtain ⟨p, l, e, R, s, m, args, below, meth, c, D, dA, V0, n0, mc, ms⟩ := x
  intro H locs ls h hl
  cases r with
  | none => exact lv_aloadN C.1 C.2.1 d (lv_at hl q hq) (k9 H locs ls h hl)
  | some a => exact lv_aload C.1 C.2.1 d (lv_at hl q hq) (k9 H locs ls h hl)
theorem z_istore_n (C : zC x cc own nm nL F L ret) {k : Fin 4} {i : Nat} {a : Int32} (d : decode cc pc = .ok (.istore_n k, 1)) (hi : (k : Nat) = i) (hn : i < nL) (hl' : (i, Value.int a) :: lv.filter (fun q => !(q.1 == i) && !(q.1 + 1 == i && q.2.category == 2)) = lv') (k9 : zZ x nL cells slots w V n (pc + 1) lv' st) : zZ x nL cells slots w V n pc lv (.int a :: st) := by
  obtain ⟨p, l, e, R, s, m, args, below, meth, c, D, dA, V0, n0, mc, ms⟩ := x
  exact fun H locs ls h hl => lv_istore_n C.1 C.2.1 d hi hl hn hl' (fun ls' h' => k9 H locs ls' h h')
theorem z_istore (C : zC x cc own nm nL F L ret) {i : Nat} {a : Int32} (d : decode cc pc = .ok (.istore i, 2)) (hn : i < nL) (hl' : (i, Value.int a) :: lv.filter (fun q => !(q.1 == i) && !(q.1 + 1 == i && q.2.category == 2)) = lv') (k9 : zZ x nL cells slots w V n (pc + 2) lv' st) : zZ x nL cells slots w V n pc lv (.int a :: st) := by
  obtain ⟨p, l, e, R, s, m, args, below, meth, c, D, dA, V0, n0, mc, ms⟩ := x
  exact fun H locs ls h hl => lv_istore C.1 C.2.1 d hl hn hl' (fun ls' h' => k9 H locs ls' h h')
theorem z_lstore_n (C : zC x cc own nm nL F L ret) {k : Fin 4} {i : Nat} {a : Int64} (d : decode cc pc = .ok (.lstore_n k, 1)) (hi : (k : Nat) = i) (hn : i + 1 < nL) (hl' : (i, Value.long a) :: lv.filter (fun q => !(q.1 == i) && (!(q.1 == i + 1) && !(q.1 + 1 == i && q.2.category == 2))) = lv') (k9 : zZ x nL cells slots w V n (pc + 1) lv' st) : zZ x nL cells slots w V n pc lv (.long a :: st) := by
  obtain ⟨p, l, e, R, s, m, args, below, meth, c, D, dA, V0, n0, mc, ms⟩ := x
  exact fun H locs ls h hl => lv_lstore_n C.1 C.2.1 d hi hl hn hl' (fun ls' h' => k9 H locs ls' h h')
theorem z_lstore (C : zC x cc own nm nL F L ret) {i : Nat} {a : Int64} (d : decode cc pc = .ok (.lstore i, 2)) (hn : i + 1 < nL) (hl' : (i, Value.long a) :: lv.filter (fun q => !(q.1 == i) && (!(q.1 == i + 1) && !(q.1 + 1 == i && q.2.category == 2))) = lv') (k9 : zZ x nL cells slots w V n (pc + 2) lv' st) : zZ x nL cells slots w V n pc lv (.long a :: st) := by
  obtain ⟨p, l, e, R, s, m, args, below, meth, c, D, dA, V0, n0, mc, ms⟩ := x
  exact fun H locs ls h hl => lv_lstore C.1 C.2.1 d hl hn hl' (fun ls' h' => k9 H locs ls' h h')
theorem z_astore_n (C : zC x cc own nm nL F L ret) {k : Fin 4} {i : Nat} {r : Option Nat} (d : decode cc pc = .ok (.astore_n k, 1)) (hi : (k : Nat) = i) (hn : i < nL) (hl' : (i, va_rf r) :: lv.filter (fun q => !(q.1 == i) && !(q.1 + 1 == i && q.2.category == 2)) = lv') (k9 : zZ x nL cells slots w V n (pc + 1) lv' st) : zZ x nL cells slots w V n pc lv (va_rf r :: st) := by
  obtain ⟨p, l, e, R, s, m, args, below, meth, c, D, dA, V0, n0, mc, ms⟩ := x
  intro H locs ls h hl
  cases r with
  | none => exact lv_astore_nN C.1 C.2.1 d hi hl hn hl' (fun ls' h' => k9 H locs ls' h h')
  | some a => exact lv_astore_n C.1 C.2.1 d hi hl hn hl' (fun ls' h' => k9 H locs ls' h h')
theorem z_astore (C : zC x cc own nm nL F L ret) {i : Nat} {r : Option Nat} (d : decode cc pc = .ok (.astore i, 2)) (hn : i < nL) (hl' : (i, va_rf r) :: lv.filter (fun q => !(q.1 == i) && !(q.1 + 1 == i && q.2.category == 2)) = lv') (k9 : zZ x nL cells slots w V n (pc + 2) lv' st) : zZ x nL cells slots w V n pc lv (va_rf r :: st) := by
  obtain ⟨p, l, e, R, s, m, args, below, meth, c, D, dA, V0, n0, mc, ms⟩ := x
  intro H locs ls h hl
  cases r with
  | none => exact lv_astoreN C.1 C.2.1 d hl hn hl' (fun ls' h' => k9 H locs ls' h h')
  | some a => exact lv_astore C.1 C.2.1 d hl hn hl' (fun ls' h' => k9 H locs ls' h h')
theorem z_iinc (C : zC x cc own nm nL F L ret) {i : Nat} {j : Int} {a b : Int32} (q : Nat) (d : decode cc pc = .ok (.iinc i j, 3)) (hq : lv[q]? = some (i, .int a)) (hb : a + Int32.ofInt j = b) (hn : i < nL) (hl' : (i, Value.int b) :: lv.filter (fun q => !(q.1 == i) && !(q.1 + 1 == i && q.2.category == 2)) = lv') (k9 : zZ x nL cells slots w V n (pc + 3) lv' st) : zZ x nL cells slots w V n pc lv st := by
  obtain ⟨p, l, e, R, s, m, args, below, meth, c, D, dA, V0, n0, mc, ms⟩ := x
  exact fun H locs ls h hl => lv_iinc C.1 C.2.1 d hl hq hb hn hl' (fun ls' h' => k9 H locs ls' h h')
theorem z_sub (ks : List Nat) (hk : lv_pick lv ks = lv') (k9 : zZ x nL cells slots w V n pc lv' st) : zZ x nL cells slots w V n pc lv st := by
  obtain ⟨p, l, e, R, s, m, args, below, meth, c, D, dA, V0, n0, mc, ms⟩ := x
  exact fun H locs ls h hl => k9 H locs ls h (lv_sub hl ks hk)
theorem z_widen {c2 s2 : Nat} (h1 : cells ≤ c2) (h2 : slots ≤ s2) (k9 : zZ x nL c2 s2 w V n pc lv st) : zZ x nL cells slots w V n pc lv st := by
  obtain ⟨p, l, e, R, s, m, args, below, meth, c, D, dA, V0, n0, mc, ms⟩ := x
  exact fun H locs ls h hl => W.widen h1 h2 (k9 H locs ls h hl)
theorem z_goto (C : zC x cc own nm nL F L ret) {off : Int} (tgt : Nat) (d : decode cc pc = .ok (.goto off, 3)) (ht : (pc : Int) + off = (tgt : Int)) (k9 : zZ x nL cells slots w V n tgt lv st) : zZ x nL cells slots w V n pc lv st := by
  obtain ⟨p, l, e, R, s, m, args, below, meth, c, D, dA, V0, n0, mc, ms⟩ := x
  exact fun H locs ls h hl => lv_goto C.1 C.2.1 d ht (k9 H locs ls h hl)
theorem z_if_eq (C : zC x cc own nm nL F L ret) {a : Int32} {off : Int} {A B : Option zR} (tgt : Nat) (d : decode cc pc = .ok (.ifCond .eq off, 3)) (ht : (pc : Int) + off = (tgt : Int)) (h : (if a = 0 then A else B) = some w) (kt : A = some w → zZ x nL cells slots w V n tgt lv st) (kf : B = some w → zZ x nL cells slots w V n (pc + 3) lv st) : zZ x nL cells slots w V n pc lv (.int a :: st) := by
  obtain ⟨p, l, e, R, s, m, args, below, meth, c, D, dA, V0, n0, mc, ms⟩ := x
  exact fun H locs ls h0 hl => lv_if_eq C.1 C.2.1 d ht (fun q => kt (by rw [if_pos q] at h; exact h) H locs ls h0 hl) (fun q => kf (by rw [if_neg q] at h; exact h) H locs ls h0 hl)
theorem z_icmp_eq (C : zC x cc own nm nL F L ret) {a b : Int32} {off : Int} {A B : Option zR} (tgt : Nat) (d : decode cc pc = .ok (.if_icmp .eq off, 3)) (ht : (pc : Int) + off = (tgt : Int)) (h : (if a = b then A else B) = some w) (kt : A = some w → zZ x nL cells slots w V n tgt lv st) (kf : B = some w → zZ x nL cells slots w V n (pc + 3) lv st) : zZ x nL cells slots w V n pc lv (.int b :: .int a :: st) := by
  obtain ⟨p, l, e, R, s, m, args, below, meth, c, D, dA, V0, n0, mc, ms⟩ := x
  exact fun H locs ls h0 hl => lv_icmp_eq C.1 C.2.1 d ht (fun q => kt (by rw [if_pos q] at h; exact h) H locs ls h0 hl) (fun q => kf (by rw [if_neg q] at h; exact h) H locs ls h0 hl)
theorem z_if_ne (C : zC x cc own nm nL F L ret) {a : Int32} {off : Int} {A B : Option zR} (tgt : Nat) (d : decode cc pc = .ok (.ifCond .ne off, 3)) (ht : (pc : Int) + off = (tgt : Int)) (h : (if a = 0 then B else A) = some w) (kt : A = some w → zZ x nL cells slots w V n tgt lv st) (kf : B = some w → zZ x nL cells slots w V n (pc + 3) lv st) : zZ x nL cells slots w V n pc lv (.int a :: st) := by
  obtain ⟨p, l, e, R, s, m, args, below, meth, c, D, dA, V0, n0, mc, ms⟩ := x
  exact fun H locs ls h0 hl => lv_if_ne C.1 C.2.1 d ht (fun q => kt (by rw [if_neg q] at h; exact h) H locs ls h0 hl) (fun q => kf (by rw [if_pos q] at h; exact h) H locs ls h0 hl)
theorem z_icmp_ne (C : zC x cc own nm nL F L ret) {a b : Int32} {off : Int} {A B : Option zR} (tgt : Nat) (d : decode cc pc = .ok (.if_icmp .ne off, 3)) (ht : (pc : Int) + off = (tgt : Int)) (h : (if a = b then B else A) = some w) (kt : A = some w → zZ x nL cells slots w V n tgt lv st) (kf : B = some w → zZ x nL cells slots w V n (pc + 3) lv st) : zZ x nL cells slots w V n pc lv (.int b :: .int a :: st) := by
  obtain ⟨p, l, e, R, s, m, args, below, meth, c, D, dA, V0, n0, mc, ms⟩ := x
  exact fun H locs ls h0 hl => lv_icmp_ne C.1 C.2.1 d ht (fun q => kt (by rw [if_neg q] at h; exact h) H locs ls h0 hl) (fun q => kf (by rw [if_pos q] at h; exact h) H locs ls h0 hl)
theorem z_if_lt (C : zC x cc own nm nL F L ret) {a : Int32} {off : Int} {A B : Option zR} (tgt : Nat) (d : decode cc pc = .ok (.ifCond .lt off, 3)) (ht : (pc : Int) + off = (tgt : Int)) (h : (if a < 0 then A else B) = some w) (kt : A = some w → zZ x nL cells slots w V n tgt lv st) (kf : B = some w → zZ x nL cells slots w V n (pc + 3) lv st) : zZ x nL cells slots w V n pc lv (.int a :: st) := by
  obtain ⟨p, l, e, R, s, m, args, below, meth, c, D, dA, V0, n0, mc, ms⟩ := x
  exact fun H locs ls h0 hl => lv_if_lt C.1 C.2.1 d ht (fun q => kt (by rw [if_pos q] at h; exact h) H locs ls h0 hl) (fun q => kf (by rw [if_neg q] at h; exact h) H locs ls h0 hl)
theorem z_icmp_lt (C : zC x cc own nm nL F L ret) {a b : Int32} {off : Int} {A B : Option zR} (tgt : Nat) (d : decode cc pc = .ok (.if_icmp .lt off, 3)) (ht : (pc : Int) + off = (tgt : Int)) (h : (if a < b then A else B) = some w) (kt : A = some w → zZ x nL cells slots w V n tgt lv st) (kf : B = some w → zZ x nL cells slots w V n (pc + 3) lv st) : zZ x nL cells slots w V n pc lv (.int b :: .int a :: st) := by
  obtain ⟨p, l, e, R, s, m, args, below, meth, c, D, dA, V0, n0, mc, ms⟩ := x
  exact fun H locs ls h0 hl => lv_icmp_lt C.1 C.2.1 d ht (fun q => kt (by rw [if_pos q] at h; exact h) H locs ls h0 hl) (fun q => kf (by rw [if_neg q] at h; exact h) H locs ls h0 hl)
theorem z_if_ge (C : zC x cc own nm nL F L ret) {a : Int32} {off : Int} {A B : Option zR} (tgt : Nat) (d : decode cc pc = .ok (.ifCond .ge off, 3)) (ht : (pc : Int) + off = (tgt : Int)) (h : (if 0 ≤ a then A else B) = some w) (kt : A = some w → zZ x nL cells slots w V n tgt lv st) (kf : B = some w → zZ x nL cells slots w V n (pc + 3) lv st) : zZ x nL cells slots w V n pc lv (.int a :: st) := by
  obtain ⟨p, l, e, R, s, m, args, below, meth, c, D, dA, V0, n0, mc, ms⟩ := x
  exact fun H locs ls h0 hl => lv_if_ge C.1 C.2.1 d ht (fun q => kt (by rw [if_pos q] at h; exact h) H locs ls h0 hl) (fun q => kf (by rw [if_neg q] at h; exact h) H locs ls h0 hl)
theorem z_icmp_ge (C : zC x cc own nm nL F L ret) {a b : Int32} {off : Int} {A B : Option zR} (tgt : Nat) (d : decode cc pc = .ok (.if_icmp .ge off, 3)) (ht : (pc : Int) + off = (tgt : Int)) (h : (if b ≤ a then A else B) = some w) (kt : A = some w → zZ x nL cells slots w V n tgt lv st) (kf : B = some w → zZ x nL cells slots w V n (pc + 3) lv st) : zZ x nL cells slots w V n pc lv (.int b :: .int a :: st) := by
  obtain ⟨p, l, e, R, s, m, args, below, meth, c, D, dA, V0, n0, mc, ms⟩ := x
  exact fun H locs ls h0 hl => lv_icmp_ge C.1 C.2.1 d ht (fun q => kt (by rw [if_pos q] at h; exact h) H locs ls h0 hl) (fun q => kf (by rw [if_neg q] at h; exact h) H locs ls h0 hl)
theorem z_if_gt (C : zC x cc own nm nL F L ret) {a : Int32} {off : Int} {A B : Option zR} (tgt : Nat) (d : decode cc pc = .ok (.ifCond .gt off, 3)) (ht : (pc : Int) + off = (tgt : Int)) (h : (if 0 < a then A else B) = some w) (kt : A = some w → zZ x nL cells slots w V n tgt lv st) (kf : B = some w → zZ x nL cells slots w V n (pc + 3) lv st) : zZ x nL cells slots w V n pc lv (.int a :: st) := by
  obtain ⟨p, l, e, R, s, m, args, below, meth, c, D, dA, V0, n0, mc, ms⟩ := x
  exact fun H locs ls h0 hl => lv_if_gt C.1 C.2.1 d ht (fun q => kt (by rw [if_pos q] at h; exact h) H locs ls h0 hl) (fun q => kf (by rw [if_neg q] at h; exact h) H locs ls h0 hl)
theorem z_icmp_gt (C : zC x cc own nm nL F L ret) {a b : Int32} {off : Int} {A B : Option zR} (tgt : Nat) (d : decode cc pc = .ok (.if_icmp .gt off, 3)) (ht : (pc : Int) + off = (tgt : Int)) (h : (if b < a then A else B) = some w) (kt : A = some w → zZ x nL cells slots w V n tgt lv st) (kf : B = some w → zZ x nL cells slots w V n (pc + 3) lv st) : zZ x nL cells slots w V n pc lv (.int b :: .int a :: st) := by
  obtain ⟨p, l, e, R, s, m, args, below, meth, c, D, dA, V0, n0, mc, ms⟩ := x
  exact fun H locs ls h0 hl => lv_icmp_gt C.1 C.2.1 d ht (fun q => kt (by rw [if_pos q] at h; exact h) H locs ls h0 hl) (fun q => kf (by rw [if_neg q] at h; exact h) H locs ls h0 hl)
theorem z_if_le (C : zC x cc own nm nL F L ret) {a : Int32} {off : Int} {A B : Option zR} (tgt : Nat) (d : decode cc pc = .ok (.ifCond .le off, 3)) (ht : (pc : Int) + off = (tgt : Int)) (h : (if a ≤ 0 then A else B) = some w) (kt : A = some w → zZ x nL cells slots w V n tgt lv st) (kf : B = some w → zZ x nL cells slots w V n (pc + 3) lv st) : zZ x nL cells slots w V n pc lv (.int a :: st) := by
  obtain ⟨p, l, e, R, s, m, args, below, meth, c, D, dA, V0, n0, mc, ms⟩ := x
  exact fun H locs ls h0 hl => lv_if_le C.1 C.2.1 d ht (fun q => kt (by rw [if_pos q] at h; exact h) H locs ls h0 hl) (fun q => kf (by rw [if_neg q] at h; exact h) H locs ls h0 hl)
theorem z_icmp_le (C : zC x cc own nm nL F L ret) {a b : Int32} {off : Int} {A B : Option zR} (tgt : Nat) (d : decode cc pc = .ok (.if_icmp .le off, 3)) (ht : (pc : Int) + off = (tgt : Int)) (h : (if a ≤ b then A else B) = some w) (kt : A = some w → zZ x nL cells slots w V n tgt lv st) (kf : B = some w → zZ x nL cells slots w V n (pc + 3) lv st) : zZ x nL cells slots w V n pc lv (.int b :: .int a :: st) := by
  obtain ⟨p, l, e, R, s, m, args, below, meth, c, D, dA, V0, n0, mc, ms⟩ := x
  exact fun H locs ls h0 hl => lv_icmp_le C.1 C.2.1 d ht (fun q => kt (by rw [if_pos q] at h; exact h) H locs ls h0 hl) (fun q => kf (by rw [if_neg q] at h; exact h) H locs ls h0 hl)
end ZS
end
section
/-! READING AND WRITING the map, as functions: none where the machine would throw by itself -/
def z_obj (V : zV) (r : Option Nat) (cs : List Nat) : Option (Nat × Nat × List Value) := r.bind fun a => (V a).bind fun x => match x with
  | .inr o => if cs.contains o.1 then some (a, o) else none
  | .inl _ => none
def z_arr (V : zV) (r : Option Nat) (t : Nat) : Option (Nat × vp_A) := r.bind fun a => (V a).bind fun x => match x with
  | .inl q => if q.1 = t then some (a, q.2) else none
  | .inr _ => none
def zgI (V : zV) (r : Option Nat) (cs : List Nat) (k : Nat) : Option Int32 := (z_obj V r cs).bind fun o => match o.2.2[k]? with
  | some (.int v) => some v
  | _ => none
def zgL (V : zV) (r : Option Nat) (cs : List Nat) (k : Nat) : Option Int64 := (z_obj V r cs).bind fun o => match o.2.2[k]? with
  | some (.long v) => some v
  | _ => none
def zgR (V : zV) (r : Option Nat) (cs : List Nat) (k : Nat) : Option (Option Nat) := (z_obj V r cs).bind fun o => match o.2.2[k]? with
  | some (.ref v) => some (some v)
  | some .null => some none
  | _ => none
def zpf (V : zV) (r : Option Nat) (cs : List Nat) (k : Nat) (v : Value) : Option zV := (z_obj V r cs).bind fun o => if k < o.2.2.length then some (z_up V o.1 (.inr (o.2.1, o.2.2.set k v))) else none
def zpI (V : zV) (r : Option Nat) (cs : List Nat) (k : Nat) (v : Int32) : Option zV := zpf V r cs k (.int v)
def zpZ (V : zV) (r : Option Nat) (cs : List Nat) (k : Nat) (v : Int32) : Option zV := if v = 0 ∨ v = 1 then zpf V r cs k (.int v) else none
def zpL (V : zV) (r : Option Nat) (cs : List Nat) (k : Nat) (v : Int64) : Option zV := zpf V r cs k (.long v)
def zpR (V : zV) (r : Option Nat) (cs : List Nat) (k : Nat) (v : Option Nat) : Option zV := zpf V r cs k (va_rf v)
def zalen (V : zV) (r : Option Nat) (t : Nat) : Option Int32 := (z_arr V r t).bind fun q => some (Int32.ofNat q.2.1)
def zaI (V : zV) (r : Option Nat) (t : Nat) (i : Int32) : Option Int32 := (z_arr V r t).bind fun q => match q.2.2 with
  | .inl f => if i < 0 ∨ q.2.1 ≤ i.toNatClampNeg then none else some (f i.toNatClampNeg)
  | _ => none
def zaL (V : zV) (r : Option Nat) (t : Nat) (i : Int32) : Option Int64 := (z_arr V r t).bind fun q => match q.2.2 with
  | .inr (.inl f) => if i < 0 ∨ q.2.1 ≤ i.toNatClampNeg then none else some (f i.toNatClampNeg)
  | _ => none
def zaR (V : zV) (r : Option Nat) (t : Nat) (i : Int32) : Option (Option Nat) := (z_arr V r t).bind fun q => match q.2.2 with
  | .inr (.inr (.inr (.inr f))) => if i < 0 ∨ q.2.1 ≤ i.toNatClampNeg then none else some (f i.toNatClampNeg)
  | _ => none
def zsI (V : zV) (r : Option Nat) (t : Nat) (i : Int32) (v : Int32) : Option zV := (z_arr V r t).bind fun q => match q.2.2 with
  | .inl f => if i < 0 ∨ q.2.1 ≤ i.toNatClampNeg then none else some (z_up V q.1 (.inl (t, q.2.1, .inl (upd f i.toNatClampNeg v))))
  | _ => none
def zsZ (V : zV) (r : Option Nat) (t : Nat) (i : Int32) (v : Int32) : Option zV := if v = 0 ∨ v = 1 then zsI V r t i v else none
def zsL (V : zV) (r : Option Nat) (t : Nat) (i : Int32) (v : Int64) : Option zV := (z_arr V r t).bind fun q => match q.2.2 with
  | .inr (.inl f) => if i < 0 ∨ q.2.1 ≤ i.toNatClampNeg then none else some (z_up V q.1 (.inl (t, q.2.1, .inr (.inl (vp_updL f i.toNatClampNeg v)))))
  | _ => none
/-- a reference is stored: to an object of one of the classes cs -/
def zsR (V : zV) (r : Option Nat) (t : Nat) (cs : List Nat) (i : Int32) (v : Option Nat) : Option zV := (z_obj V v cs).bind fun _ => (z_arr V r t).bind fun q => match q.2.2 with
  | .inr (.inr (.inr (.inr f))) => if i < 0 ∨ q.2.1 ≤ i.toNatClampNeg then none else some (z_up V q.1 (.inl (t, q.2.1, .inr (.inr (.inr (.inr (va_up f i.toNatClampNeg v)))))))
  | _ => none
theorem z_obj_some {V : zV} {r : Option Nat} {cs : List Nat} {o : Nat × Nat × List Value} (h : z_obj V r cs = some o) : r = some o.1 ∧ V o.1 = some (.inr o.2) ∧ cs.contains o.2.1 = true := by
  unfold z_obj at h
  cases r with
  | none => cases h
  | some a =>
    simp only [Option.bind_some] at h
    cases hv : V a with
    | none => rw [hv] at h; cases h
    | some x =>
      rw [hv] at h
      simp only [Option.bind_some] at h
      cases x with
      | inl q => cases h
      | inr q =>
        simp only at h
        by_cases hc : cs.contains q.1 = true
        · rw [if_pos hc] at h
          cases h
          exact ⟨rfl, hv, hc⟩
        · rw [if_neg hc] at h
          cases h
theorem z_arr_some {V : zV} {r : Option Nat} {t : Nat} {q : Nat × vp_A} (h : z_arr V r t = some q) : r = some q.1 ∧ V q.1 = some (.inl (t, q.2)) := by
  unfold z_arr at h
  cases r with
  | none => cases h
  | some a =>
    simp only [Option.bind_some] at h
    cases hv : V a with
    | none => rw [hv] at h; cases h
    | some x =>
      rw [hv] at h
      simp only [Option.bind_some] at h
      cases x with
      | inr q => cases h
      | inl u =>
        simp only at h
        by_cases hc : u.1 = t
        · rw [if_pos hc] at h
          cases h
          exact ⟨rfl, by rw [hv, ← hc]⟩
        · rw [if_neg hc] at h
          cases h
/-- a field of a pool: the word that links it, the class's words; all of them words of the tables -/
def z_fld (own : String) (idx ci k : Nat) : Prop := ∃ (C : String) (T : u_T) (N : Nat) (ref : String), zcl[ci]? = some (C, T, N) ∧ k < N ∧ (∀ w ∈ u_ws C T N, w ∈ zTs) ∧ Cond.fieldLink own idx ref (T k).2.1 (T k).2.2.1 ∈ zTs ∧ (ref = (T k).1 ∨ Cond.sameField ref (T k).1 (T k).2.1 (T k).2.2.1 ∈ zTs)
/-- what writing it needs: not final; the types of the class's fields; names apart -/
def z_wrt (ci k : Nat) (fin : Bool) (own : String) (ty : FieldType) : Prop := ∃ (C : String) (T : u_T) (N : Nat) (ty0 : Nat → FieldType), zcl[ci]? = some (C, T, N) ∧ (T k).2.2.2 = fin ∧ (fin = true → (T k).1 = own) ∧ parseFieldDescriptor (T k).2.2.1 = some ty ∧ (∀ k, k < N → parseFieldDescriptor (T k).2.2.1 = some (ty0 k)) ∧ (∀ a, a < N → ∀ b, b < N → a ≠ b → (T a).2.1 ≠ (T b).2.1)
section ZG
variable {x : zX} {cc : ByteArray} {own nm : String} {nL F L : Nat} {ret : Option FieldType} {cells slots : Nat} {w : zR} {V : zV} {n pc : Nat} {lv lv' : List (Nat × Value)} {st : List Value}
theorem z_getV (C : zC x cc own nm nL F L ret) {a ci k idx : Nat} {fs : List Value} {v : Value} (hV : V a = some (.inr (ci, fs))) (hf : z_fld own idx ci k) (hv : fs[k]? = some v) (d : decode cc pc = .ok (.getfield idx, 3)) (k9 : zZ x nL cells slots w V n (pc + 3) lv (v :: st)) : zZ x nL cells slots w V n pc lv (.ref a :: st) := by
  obtain ⟨p, l, e, R, s, m, args, below, meth, c, D, dA, V0, n0, mc, ms⟩ := x
  obtain ⟨hx, hb, hml, hown, hts, hK, -⟩ := C
  obtain ⟨C1, T, N, ref, hc, hk, hin, hl, hsm⟩ := hf
  intro H locs ls h hls
  exact va_get (D := D) (ci := ci) hx hb hts hin hown hK.1 (h.2.2.1.one hV) 0 rfl hc k hk (hts _ hl) (fun y hy => by
    rcases hsm with rfl | hsm
    · exact hy
    · exact u_same (hts _ hsm) y hy) hv d (k9 H locs ls h hls)
theorem z_getI (C : zC x cc own nm nL F L ret) {r : Option Nat} {cs : List Nat} {k idx : Nat} (hf : ∀ ci ∈ cs, z_fld own idx ci k) (d : decode cc pc = .ok (.getfield idx, 3)) {K : Int32 → Option zR} (h : (zgI V r cs k).bind K = some w) (k9 : ∀ v, K v = some w → zZ x nL cells slots w V n (pc + 3) lv (.int v :: st)) : zZ x nL cells slots w V n pc lv (va_rf r :: st) := by
  unfold zgI at h
  cases ho : z_obj V r cs with
  | none => rw [ho] at h; cases h
  | some o =>
    rw [ho] at h
    obtain ⟨rfl, h2, h3⟩ := z_obj_some ho
    simp only [Option.bind_some] at h
    cases hk : o.2.2[k]? with
    | none => rw [hk] at h; cases h
    | some v =>
      rw [hk] at h
      cases v with
      | int v => exact z_getV C (ci := o.2.1) (fs := o.2.2) h2 (hf _ (by simpa using h3)) hk d (k9 v h)
      | _ => cases h
theorem z_getL (C : zC x cc own nm nL F L ret) {r : Option Nat} {cs : List Nat} {k idx : Nat} (hf : ∀ ci ∈ cs, z_fld own idx ci k) (d : decode cc pc = .ok (.getfield idx, 3)) {K : Int64 → Option zR} (h : (zgL V r cs k).bind K = some w) (k9 : ∀ v, K v = some w → zZ x nL cells slots w V n (pc + 3) lv (.long v :: st)) : zZ x nL cells slots w V n pc lv (va_rf r :: st) := by
  unfold zgL at h
  cases ho : z_obj V r cs with
  | none => rw [ho] at h; cases h
  | some o =>
    rw [ho] at h
    obtain ⟨rfl, h2, h3⟩ := z_obj_some ho
    simp only [Option.bind_some] at h
    cases hk : o.2.2[k]? with
    | none => rw [hk] at h; cases h
    | some v =>
      rw [hk] at h
      cases v with
      | long v => exact z_getV C (ci := o.2.1) (fs := o.2.2) h2 (hf _ (by simpa using h3)) hk d (k9 v h)
      | _ => cases h
theorem z_getR (C : zC x cc own nm nL F L ret) {r : Option Nat} {cs : List Nat} {k idx : Nat} (hf : ∀ ci ∈ cs, z_fld own idx ci k) (d : decode cc pc = .ok (.getfield idx, 3)) {K : Option Nat → Option zR} (h : (zgR V r cs k).bind K = some w) (k9 : ∀ v, K v = some w → zZ x nL cells slots w V n (pc + 3) lv (va_rf v :: st)) : zZ x nL cells slots w V n pc lv (va_rf r :: st) := by
  unfold zgR at h
  cases ho : z_obj V r cs with
  | none => rw [ho] at h; cases h
  | some o =>
    rw [ho] at h
    obtain ⟨rfl, h2, h3⟩ := z_obj_some ho
    simp only [Option.bind_some] at h
    cases hk : o.2.2[k]? with
    | none => rw [hk] at h; cases h
    | some v =>
      rw [hk] at h
      cases v with
      | ref v => exact z_getV C (ci := o.2.1) (fs := o.2.2) h2 (hf _ (by simpa using h3)) hk d (k9 (some v) h)
      | null => exact z_getV C (ci := o.2.1) (fs := o.2.2) h2 (hf _ (by simpa using h3)) hk d (k9 none h)
      | _ => cases h
/-- putfield: v fits the field's type -/
theorem z_putV (C : zC x cc own nm nL F L ret) {r : Option Nat} {cs : List Nat} {k idx : Nat} {v : Value} {ty : FieldType} {fin : Bool} (hf : ∀ ci ∈ cs, z_fld own idx ci k ∧ z_wrt ci k fin own ty) (hfin : fin = true → nm = "<init>") (hn : narrow ty v = v) (hfit : fits ty v = true) (d : decode cc pc = .ok (.putfield idx, 3)) {K : zV → Option zR} (h : (zpf V r cs k v).bind K = some w) (k9 : ∀ V', K V' = some w → zZ x nL cells slots w V' n (pc + 3) lv st) : zZ x nL cells slots w V n pc lv (v :: va_rf r :: st) := by
  unfold zpf at h
  cases ho : z_obj V r cs with
  | none => rw [ho] at h; cases h
  | some o =>
    rw [ho] at h
    obtain ⟨rfl, h2, h3⟩ := z_obj_some ho
    simp only [Option.bind_some] at h
    by_cases hlen : k < o.2.2.length
    · rw [if_pos hlen] at h
      simp only [Option.bind_some] at h
      obtain ⟨a, ci, fs⟩ := o
      dsimp only at h h2 h3 hlen
      obtain ⟨⟨C1, T, N, ref, hc, hk, hin, hl, hsm⟩, ⟨C2, T2, N2, ty0, hc2, g1, g2, g3, g4, g5⟩⟩ := hf ci (by simpa using h3)
      cases hc.symm.trans hc2
      have k8 := k9 _ h
      obtain ⟨p, l, e, R, s, m, args, below, meth, c, D, dA, V0, n0, mc, ms⟩ := x
      obtain ⟨hx, hb, hml, hown, hts, hK, -, -, -, hnm, -⟩ := C
      intro H locs ls hH hls
      have hsame : ∀ y, s.fieldFound? (T k).1 (T k).2.1 (T k).2.2.1 = some y → s.fieldFound? ref (T k).2.1 (T k).2.2.1 = some y := fun y hy => by
        rcases hsm with rfl | hsm
        · exact hy
        · exact u_same (hts _ hsm) y hy
      have hap := va_apart (own := own) hts hin ty0 g4 g5 hK.1 hc
      obtain ⟨r9, h1, cell, q1, q2, q3, q4⟩ := hH.2.2.1 a _ h2
      have hr : r9 = (C1, T, N) := Option.some.inj (h1.symm.trans hc)
      subst hr
      obtain ⟨hS, hfc, kC, hkC, hkind⟩ := hK.1.1 ci _ hc
      obtain ⟨cf, kf, fi, f, hi, hsl⟩ := hS k hk
      have hlay := hts _ (hin _ (u_in_lay hk))
      unfold u_lay at hlay
      have hst := (u_facts hfc hkC (u_lays hts hin hk) hi).1
      cases fin with
      | false =>
        rw [if_neg (by rw [g1]; decide)] at hlay
        have h6 := u_store hfc hkC hkind hlay hi g3 hn hfit
        refine W.putK hx hb (f := f) ⟨hown, hts _ hl, ⟨_, _, _, hsame _ hi⟩, hst⟩ (by rw [q2]; exact h6) q1 q3 (by rw [hsl]; exact k2_hasslot (q4 k hk)) rfl rfl d fun H' e1 e2 e3 => ?_
        rw [hsl] at e1 ⊢
        exact k8 H' _ ls (hH.put h2 (x := .inr (ci, fs.set k v)) ⟨_, hc, t_OB.to (V := updV (vp_V fs) k v) ⟨_, e1, q2, q3, t_set q4 hap hk v⟩ (fun j _ => vp_updV_set hlen v j)⟩ e2 e3) hls
      | true =>
        rw [if_pos g1] at hlay
        have hcf : m.cls = cf := by
          obtain ⟨_, _, c', _, _, _, -, -, hf', -, -, -, hown2, -⟩ := Cond.laysFinal_spec hlay
          have e1 : c' = cf := by have := hi.symm.trans hf'; simp at this; exact this.1.symm
          rw [g2 rfl] at hown2
          rw [← e1]; exact Option.some.inj (hown.symm.trans hown2)
        have h6 := u_fits hfc hkC hkind (Or.inr hlay) hi g3 hn hfit
        refine W.putFinK hx hb hown (hts _ hl) (hsame _ hi) hst hcf (hnm.trans (hfin rfl)) (by rw [q2]; exact h6) q1 q3 (by rw [hsl]; exact k2_hasslot (q4 k hk)) rfl rfl d fun H' e1 e2 e3 => ?_
        rw [hsl] at e1 ⊢
        exact k8 H' _ ls (hH.put h2 (x := .inr (ci, fs.set k v)) ⟨_, hc, t_OB.to (V := updV (vp_V fs) k v) ⟨_, e1, q2, q3, t_set q4 hap hk v⟩ (fun j _ => vp_updV_set hlen v j)⟩ e2 e3) hls
    · rw [if_neg hlen] at h; cases h
end ZG
section ZA
variable {x : zX} {cc : ByteArray} {own nm : String} {nL F L : Nat} {ret : Option FieldType} {cells slots : Nat} {w : zR} {V : zV} {n pc : Nat} {lv lv' : List (Nat × Value)} {st : List Value}
theorem z_alen (C : zC x cc own nm nL F L ret) {r : Option Nat} {t : Nat} {ty : FieldType} (ht : ztl[t]? = some ty) (d : decode cc pc = .ok (.arraylength, 1)) {K : Int32 → Option zR} (h : (zalen V r t).bind K = some w) (k9 : ∀ v, K v = some w → zZ x nL cells slots w V n (pc + 1) lv (.int v :: st)) : zZ x nL cells slots w V n pc lv (va_rf r :: st) := by
  unfold zalen at h
  cases ho : z_arr V r t with
  | none => rw [ho] at h; cases h
  | some q =>
    rw [ho] at h
    obtain ⟨rfl, h2⟩ := z_arr_some ho
    simp only [Option.bind_some] at h
    have k8 := k9 _ h
    obtain ⟨p, l, e, R, s, m, args, below, meth, c, D, dA, V0, n0, mc, ms⟩ := x
    exact fun H locs ls hH hls => va_alen C.1 C.2.1 (C.2.2.2.2.2.1.arr ht) (hH.2.2.1.one h2) 0 0 rfl rfl rfl d (k8 H locs ls hH hls)
theorem z_iald (C : zC x cc own nm nL F L ret) {r : Option Nat} {t : Nat} {i : Int32} (ht : ztl[t]? = some .int) (d : decode cc pc = .ok (.iaload, 1)) {K : Int32 → Option zR} (h : (zaI V r t i).bind K = some w) (k9 : ∀ v, K v = some w → zZ x nL cells slots w V n (pc + 1) lv (.int v :: st)) : zZ x nL cells slots w V n pc lv (.int i :: va_rf r :: st) := by
  unfold zaI at h
  cases ho : z_arr V r t with
  | none => rw [ho] at h; cases h
  | some q =>
    rw [ho] at h
    obtain ⟨rfl, h2⟩ := z_arr_some ho
    simp only [Option.bind_some] at h
    obtain ⟨a, N, u⟩ := q
    dsimp only at h h2
    split at h
    · rename_i f
      by_cases hin : i < 0 ∨ N ≤ i.toNatClampNeg
      · rw [if_pos hin] at h; cases h
      · rw [if_neg hin] at h
        have k8 := k9 _ h
        obtain ⟨p, l, e, R, s, m, args, below, meth, c, D, dA, V0, n0, mc, ms⟩ := x
        exact fun H locs ls hH hls => va_iald C.1 C.2.1 (C.2.2.2.2.2.1.arr ht) (hH.2.2.1.one h2) 0 0 rfl rfl hin d (k8 H locs ls hH hls)
    · cases h
theorem z_zald (C : zC x cc own nm nL F L ret) {r : Option Nat} {t : Nat} {i : Int32} (ht : ztl[t]? = some .boolean) (d : decode cc pc = .ok (.baload, 1)) {K : Int32 → Option zR} (h : (zaI V r t i).bind K = some w) (k9 : ∀ v, K v = some w → zZ x nL cells slots w V n (pc + 1) lv (.int v :: st)) : zZ x nL cells slots w V n pc lv (.int i :: va_rf r :: st) := by
  unfold zaI at h
  cases ho : z_arr V r t with
  | none => rw [ho] at h; cases h
  | some q =>
    rw [ho] at h
    obtain ⟨rfl, h2⟩ := z_arr_some ho
    simp only [Option.bind_some] at h
    obtain ⟨a, N, u⟩ := q
    dsimp only at h h2
    split at h
    · rename_i f
      by_cases hin : i < 0 ∨ N ≤ i.toNatClampNeg
      · rw [if_pos hin] at h; cases h
      · rw [if_neg hin] at h
        have k8 := k9 _ h
        obtain ⟨p, l, e, R, s, m, args, below, meth, c, D, dA, V0, n0, mc, ms⟩ := x
        exact fun H locs ls hH hls => va_zald C.1 C.2.1 (C.2.2.2.2.2.1.arr ht) (hH.2.2.1.one h2) 0 0 rfl rfl hin d (k8 H locs ls hH hls)
    · cases h
theorem z_lald (C : zC x cc own nm nL F L ret) {r : Option Nat} {t : Nat} {i : Int32} (ht : ztl[t]? = some .long) (d : decode cc pc = .ok (.laload, 1)) {K : Int64 → Option zR} (h : (zaL V r t i).bind K = some w) (k9 : ∀ v, K v = some w → zZ x nL cells slots w V n (pc + 1) lv (.long v :: st)) : zZ x nL cells slots w V n pc lv (.int i :: va_rf r :: st) := by
  unfold zaL at h
  cases ho : z_arr V r t with
  | none => rw [ho] at h; cases h
  | some q =>
    rw [ho] at h
    obtain ⟨rfl, h2⟩ := z_arr_some ho
    simp only [Option.bind_some] at h
    obtain ⟨a, N, u⟩ := q
    dsimp only at h h2
    split at h
    · rename_i f
      by_cases hin : i < 0 ∨ N ≤ i.toNatClampNeg
      · rw [if_pos hin] at h; cases h
      · rw [if_neg hin] at h
        have k8 := k9 _ h
        obtain ⟨p, l, e, R, s, m, args, below, meth, c, D, dA, V0, n0, mc, ms⟩ := x
        exact fun H locs ls hH hls => va_lald C.1 C.2.1 (C.2.2.2.2.2.1.arr ht) (hH.2.2.1.one h2) 0 0 rfl rfl hin d (k8 H locs ls hH hls)
    · cases h
theorem z_aald (C : zC x cc own nm nL F L ret) {r : Option Nat} {t : Nat} {i : Int32} {E : String} (ht : ztl[t]? = some (.object E)) (d : decode cc pc = .ok (.aaload, 1)) {K : Option Nat → Option zR} (h : (zaR V r t i).bind K = some w) (k9 : ∀ v, K v = some w → zZ x nL cells slots w V n (pc + 1) lv (va_rf v :: st)) : zZ x nL cells slots w V n pc lv (.int i :: va_rf r :: st) := by
  unfold zaR at h
  cases ho : z_arr V r t with
  | none => rw [ho] at h; cases h
  | some q =>
    rw [ho] at h
    obtain ⟨rfl, h2⟩ := z_arr_some ho
    simp only [Option.bind_some] at h
    obtain ⟨a, N, u⟩ := q
    dsimp only at h h2
    split at h
    · rename_i f
      by_cases hin : i < 0 ∨ N ≤ i.toNatClampNeg
      · rw [if_pos hin] at h; cases h
      · rw [if_neg hin] at h
        have k8 := k9 _ h
        obtain ⟨p, l, e, R, s, m, args, below, meth, c, D, dA, V0, n0, mc, ms⟩ := x
        exact fun H locs ls hH hls => va_aldq C.1 C.2.1 (C.2.2.2.2.2.1.arr ht) (hH.2.2.1.one h2) 0 0 rfl rfl hin d (k8 H locs ls hH hls)
    · cases h
theorem z_iast (C : zC x cc own nm nL F L ret) {r : Option Nat} {t : Nat} {i : Int32} {v : Int32} (ht : ztl[t]? = some .int) (d : decode cc pc = .ok (.iastore, 1)) {K : zV → Option zR} (h : (zsI V r t i v).bind K = some w) (k9 : ∀ V', K V' = some w → zZ x nL cells slots w V' n (pc + 1) lv st) : zZ x nL cells slots w V n pc lv (.int v :: .int i :: va_rf r :: st) := by
  unfold zsI at h
  cases ho : z_arr V r t with
  | none => rw [ho] at h; cases h
  | some q =>
    rw [ho] at h
    obtain ⟨rfl, h2⟩ := z_arr_some ho
    simp only [Option.bind_some] at h
    obtain ⟨a, N, u⟩ := q
    dsimp only at h h2
    split at h
    · rename_i f
      by_cases hin : i < 0 ∨ N ≤ i.toNatClampNeg
      · rw [if_pos hin] at h; cases h
      · rw [if_neg hin] at h
        have k8 := k9 _ h
        obtain ⟨p, l, e, R, s, m, args, below, meth, c, D, dA, V0, n0, mc, ms⟩ := x
        intro H locs ls hH hls
        refine W.iast C.1 C.2.1 (hH.2.2.1 a _ h2) (((C.2.2.2.2.2.1.arr ht).2 0 _ rfl).1 N _) (fun q => by cases q) (by show ¬ (i < 0 ∨ (arrV _ _ _).slots.size ≤ _); rw [arrV_size]; exact hin) rfl rfl d fun H1 e1 z oq => ?_
        refine k8 H1 _ ls (hH.put h2 (x := .inl (t, N, .inl (upd f i.toNatClampNeg v))) ?_ z oq) hls
        show H1[a]? = some (vp_cell _ _)
        rw [e1]
        show some ((vp_cell _ _).setSlot _ _) = _
        rw [vp_cell_i, vp_cell_i, arrV_store]
        congr 2
        funext q
        by_cases hq : q = i.toNatClampNeg
        · subst hq
          simp [updV, upd]
        · simp [updV, upd, hq]
    · cases h
theorem z_zast0 (C : zC x cc own nm nL F L ret) {r : Option Nat} {t : Nat} {i : Int32} {v : Int32} (ht : ztl[t]? = some .boolean) (hnar : narrow .boolean (.int v) = .int v) (d : decode cc pc = .ok (.bastore, 1)) {K : zV → Option zR} (h : (zsI V r t i v).bind K = some w) (k9 : ∀ V', K V' = some w → zZ x nL cells slots w V' n (pc + 1) lv st) : zZ x nL cells slots w V n pc lv (.int v :: .int i :: va_rf r :: st) := by
  unfold zsI at h
  cases ho : z_arr V r t with
  | none => rw [ho] at h; cases h
  | some q =>
    rw [ho] at h
    obtain ⟨rfl, h2⟩ := z_arr_some ho
    simp only [Option.bind_some] at h
    obtain ⟨a, N, u⟩ := q
    dsimp only at h h2
    split at h
    · rename_i f
      by_cases hin : i < 0 ∨ N ≤ i.toNatClampNeg
      · rw [if_pos hin] at h; cases h
      · rw [if_neg hin] at h
        have k8 := k9 _ h
        obtain ⟨p, l, e, R, s, m, args, below, meth, c, D, dA, V0, n0, mc, ms⟩ := x
        intro H locs ls hH hls
        refine W.zast C.1 C.2.1 (hH.2.2.1 a _ h2) (((C.2.2.2.2.2.1.arr ht).2 0 _ rfl).1 N _) (fun q => by cases q) (by show ¬ (i < 0 ∨ (arrV _ _ _).slots.size ≤ _); rw [arrV_size]; exact hin) rfl rfl d fun H1 e1 z oq => ?_
        refine k8 H1 _ ls (hH.put h2 (x := .inl (t, N, .inl (upd f i.toNatClampNeg v))) ?_ z oq) hls
        show H1[a]? = some (vp_cell _ _)
        rw [e1]
        show some ((vp_cell _ _).setSlot _ _) = _
        rw [vp_cell_i, vp_cell_i, arrV_store]
        congr 2
        funext q
        by_cases hq : q = i.toNatClampNeg
        · subst hq
          simp [updV, upd, hnar]
        · simp [updV, upd, hnar, hq]
    · cases h
theorem z_zast (C : zC x cc own nm nL F L ret) {r : Option Nat} {t : Nat} {i : Int32} {v : Int32} (ht : ztl[t]? = some .boolean) (d : decode cc pc = .ok (.bastore, 1)) {K : zV → Option zR} (h : (zsZ V r t i v).bind K = some w) (k9 : ∀ V', K V' = some w → zZ x nL cells slots w V' n (pc + 1) lv st) : zZ x nL cells slots w V n pc lv (.int v :: .int i :: va_rf r :: st) := by
  unfold zsZ at h
  by_cases hv01 : v = 0 ∨ v = 1
  · rw [if_pos hv01] at h
    exact z_zast0 C ht (by rcases hv01 with rfl | rfl <;> rfl) d h k9
  · rw [if_neg hv01] at h; cases h
theorem z_last (C : zC x cc own nm nL F L ret) {r : Option Nat} {t : Nat} {i : Int32} {v : Int64} (ht : ztl[t]? = some .long) (d : decode cc pc = .ok (.lastore, 1)) {K : zV → Option zR} (h : (zsL V r t i v).bind K = some w) (k9 : ∀ V', K V' = some w → zZ x nL cells slots w V' n (pc + 1) lv st) : zZ x nL cells slots w V n pc lv (.long v :: .int i :: va_rf r :: st) := by
  unfold zsL at h
  cases ho : z_arr V r t with
  | none => rw [ho] at h; cases h
  | some q =>
    rw [ho] at h
    obtain ⟨rfl, h2⟩ := z_arr_some ho
    simp only [Option.bind_some] at h
    obtain ⟨a, N, u⟩ := q
    dsimp only at h h2
    split at h
    · rename_i f
      by_cases hin : i < 0 ∨ N ≤ i.toNatClampNeg
      · rw [if_pos hin] at h; cases h
      · rw [if_neg hin] at h
        have k8 := k9 _ h
        obtain ⟨p, l, e, R, s, m, args, below, meth, c, D, dA, V0, n0, mc, ms⟩ := x
        intro H locs ls hH hls
        refine W.last C.1 C.2.1 (hH.2.2.1 a _ h2) (((C.2.2.2.2.2.1.arr ht).2 0 _ rfl).1 N _) (fun q => by cases q) (by show ¬ (i < 0 ∨ (arrV _ _ _).slots.size ≤ _); rw [arrV_size]; exact hin) rfl rfl d fun H1 e1 z oq => ?_
        refine k8 H1 _ ls (hH.put h2 (x := .inl (t, N, .inr (.inl (vp_updL f i.toNatClampNeg v)))) ?_ z oq) hls
        show H1[a]? = some (vp_cell _ _)
        rw [e1]
        show some ((vp_cell _ _).setSlot _ _) = _
        rw [vp_cell_l, vp_cell_l, arrV_store]
        congr 2
        funext q
        by_cases hq : q = i.toNatClampNeg
        · subst hq
          simp [updV, vp_updL]
        · simp [updV, vp_updL, hq]
    · cases h
theorem z_aast (C : zC x cc own nm nL F L ret) {r v : Option Nat} {t : Nat} {cs : List Nat} {i : Int32} {E : String} (ht : ztl[t]? = some (.object E)) (hE : ∀ ci ∈ cs, ∃ q, zcl[ci]? = some q ∧ (q.1 = E ∨ (q.1, E) ∈ zcast)) (d : decode cc pc = .ok (.aastore, 1)) {K : zV → Option zR} (h : (zsR V r t cs i v).bind K = some w) (k9 : ∀ V', K V' = some w → zZ x nL cells slots w V' n (pc + 1) lv st) : zZ x nL cells slots w V n pc lv (va_rf v :: .int i :: va_rf r :: st) := by
  unfold zsR at h
  cases ho2 : z_obj V v cs with
  | none => rw [ho2] at h; cases h
  | some o =>
    rw [ho2] at h
    obtain ⟨rfl, g2, g3⟩ := z_obj_some ho2
    simp only [Option.bind_some] at h
    cases ho : z_arr V r t with
    | none => rw [ho] at h; cases h
    | some q =>
      rw [ho] at h
      obtain ⟨rfl, h2⟩ := z_arr_some ho
      simp only [Option.bind_some] at h
      obtain ⟨a, N, u⟩ := q
      dsimp only at h h2
      split at h
      · rename_i f
        by_cases hin : i < 0 ∨ N ≤ i.toNatClampNeg
        · rw [if_pos hin] at h; cases h
        · rw [if_neg hin] at h
          have k8 := k9 _ h
          obtain ⟨b, ci, fs⟩ := o
          dsimp only at g2 g3 k8 ⊢
          obtain ⟨⟨C1, T, N1⟩, hc, hE9⟩ := hE ci (by simpa using g3)
          dsimp only at hE9
          obtain ⟨p, l, e, R, s, m, args, below, meth, c, D, dA, V0, n0, mc, ms⟩ := x
          obtain ⟨hx, hb, hml, hown, hts, hK, -⟩ := C
          intro H locs ls hH hls
          have hlt : i.toNatClampNeg < N := Nat.not_le.mp fun q => hin (Or.inr q)
          have h0 : ¬ i < 0 := fun q => hin (Or.inl q)
          obtain ⟨r9, hr9, cellV, q1, q2, q3, -⟩ := hH.2.2.1 b _ g2
          have hcls := (hK.1.1 ci _ hc).2
          obtain ⟨kA, comp, k1, k2, k3, -⟩ := (hK.2.1 t _ ht).2
          obtain ⟨kE, hkE, -⟩ := Vm.findClass_spec k3
          obtain ⟨kC, hkC, -⟩ := hcls.2
          have hca : s.vm.assignable (D.1 ci) comp = true := by
            rcases hE9 with e9 | e9
            · subst e9
              cases hcls.1.symm.trans k3
              exact va_assign hcls
            · obtain ⟨c0, t1, f1, f2, f3⟩ := Cond.castable_spec (va_Nw.use (A := args) rfl (hK.2.2.2.2.2.2.1 _ e9))
              cases hcls.1.symm.trans f1
              cases k3.symm.trans f2
              exact f3
          refine W.aast hx hb (hH.2.2.1 a _ h2) (fun q h => by cases h) (fun h => by cases h) k1 k2 rfl hkE ⟨h0, by show _ < (arrV _ _ _).slots.size; rw [arrV_size]; exact hlt⟩ q1 (fun q h => by rw [q3] at h; cases h) (by rw [q2]; exact hkC) (by rw [q2]; exact hca) rfl rfl d fun H1 e1 z oq => ?_
          refine k8 H1 _ ls (hH.put h2 (x := .inl (t, N, .inr (.inr (.inr (.inr (va_up f i.toNatClampNeg (some b))))))) ?_ z oq) hls
          show H1[a]? = some (vp_cell _ _)
          rw [e1]
          show some ((vp_cell _ _).setSlot _ _) = _
          rw [vp_cell_q, vp_cell_q, arrV_store]
          congr 2
          funext q
          by_cases hq : q = i.toNatClampNeg
          · subst hq
            simp [updV, va_up, va_rf]
          · simp [updV, va_up, hq]
      · cases h
end ZA
end
section
/-! ENDS OF A METHOD: its answer, or what it throws; its room (MC cells, MS slots) -/
def zM (x : zX) (MC MS : Nat) : Prop := match x with
  | (_, _, _, _, _, _, _, _, _, _, _, _, _, _, mc, ms) => mc = MC ∧ ms = MS
/-- a method that makes nothing but what it throws -/
def zc (w : zR) : Nat := match w.1 with
  | .inl _ => 0
  | .inr _ => 1
def zs (w : zR) : Nat := match w.1 with
  | .inl _ => 0
  | .inr _ => 6
def zrI (v : Int32) (V : zV) (n : Nat) : Option zR := some (.inl (some (.int v)), V, n)
def zrZ (v : Int32) (V : zV) (n : Nat) : Option zR := if v = 0 ∨ v = 1 then some (.inl (some (.int v)), V, n) else none
def zrL (v : Int64) (V : zV) (n : Nat) : Option zR := some (.inl (some (.long v)), V, n)
def zrR (v : Option Nat) (V : zV) (n : Nat) : Option zR := some (.inl (some (va_rf v)), V, n)
def zrV (V : zV) (n : Nat) : Option zR := some (.inl none, V, n)
def zth (E : String) (V : zV) (n : Nat) : Option zR := some (.inr E, V, n)
def znames : List String := ["java/lang/RuntimeException", "java/lang/Exception"]
def zThr (own : String) (ik is ic : Nat) (cls text : String) : Prop := Bundle.fit cls = true ∧ Cond.classLink own ik cls ∈ zTs ∧ Cond.initialized cls ∈ zTs ∧ (own, is, text) ∈ zstr ∧ (cls, cls) ∈ zcast ∧ (∀ w ∈ vx_atS own ic cls znames, w ∈ zTs ∨ w = .castable cls cls ∨ w ∈ zdecl.map Cond.declares) ∧ (∀ w ∈ Cond.classLink own ik cls :: Cond.initialized cls :: vx_atS own ic cls znames, vx_ot w = true)
theorem znames_fit : ∀ q ∈ znames, Bundle.fit q = true := by decide +kernel
theorem z_WH {D : va_G} {dA : Nat → ClassId} {V0 V : zV} {n0 n : Nat} {s t : State} {H : Heap} {locs : List Loc} (h : z_H D dA zcl (z_A V0 n0) s.heap V n H locs) (ht : t.heap = H) : z_W D dA V0 n0 V s t := ⟨by rw [ht]; exact h.2.2.1, h.2.2.2, h.1.F ht⟩
section ZE
variable {x : zX} {cc : ByteArray} {own nm : String} {nL F L MC MS : Nat} {ret : Option FieldType} {cells slots : Nat} {w : zR} {V : zV} {n pc : Nat} {lv lv' : List (Nat × Value)} {st : List Value}
theorem z_iret (C : zC x cc own nm nL F L (some .int)) (M : zM x MC MS) (hc : cells ≤ MC) (hs : slots ≤ MS) (d : decode cc pc = .ok (.ireturn, 1)) {v : Int32} (h : zrI v V n = some w) : zZ x nL cells slots w V n pc lv [.int v] := by
  have h := Option.some.inj h
  subst h
  obtain ⟨p, l, e, R, s, m, args, below, meth, c, D, dA, V0, n0, mc, ms⟩ := x
  obtain ⟨hx, hb, hml, hown, hts, hK, hn0, hlocks, hr, -⟩ := C
  obtain ⟨rfl, rfl⟩ := M
  exact fun H locs ls hH hls => W.widen hc hs (vx_ret (W.iret hx hb hr (fun t ht hW => ⟨_, rfl, rfl, by rw [ht]; exact hH.2.1, z_WH hH ht⟩) hH.1.2.2 d))
theorem z_zret (C : zC x cc own nm nL F L (some .boolean)) (M : zM x MC MS) (hc : cells ≤ MC) (hs : slots ≤ MS) (d : decode cc pc = .ok (.ireturn, 1)) {v : Int32} (h : zrZ v V n = some w) : zZ x nL cells slots w V n pc lv [.int v] := by
  unfold zrZ at h
  by_cases hv : v = 0 ∨ v = 1
  · rw [if_pos hv] at h
    have h := Option.some.inj h
    subst h
    obtain ⟨p, l, e, R, s, m, args, below, meth, c, D, dA, V0, n0, mc, ms⟩ := x
    obtain ⟨hx, hb, hml, hown, hts, hK, hn0, hlocks, hr, -⟩ := C
    obtain ⟨rfl, rfl⟩ := M
    exact fun H locs ls hH hls => W.widen hc hs (vx_ret (W.zret hx hb hr (by rcases hv with rfl | rfl <;> rfl) (fun t ht hW => ⟨_, rfl, rfl, by rw [ht]; exact hH.2.1, z_WH hH ht⟩) hH.1.2.2 d))
  · rw [if_neg hv] at h; cases h
theorem z_lret (C : zC x cc own nm nL F L (some .long)) (M : zM x MC MS) (hc : cells ≤ MC) (hs : slots ≤ MS) (d : decode cc pc = .ok (.lreturn, 1)) {v : Int64} (h : zrL v V n = some w) : zZ x nL cells slots w V n pc lv [.long v] := by
  have h := Option.some.inj h
  subst h
  obtain ⟨p, l, e, R, s, m, args, below, meth, c, D, dA, V0, n0, mc, ms⟩ := x
  obtain ⟨hx, hb, hml, hown, hts, hK, hn0, hlocks, hr, -⟩ := C
  obtain ⟨rfl, rfl⟩ := M
  exact fun H locs ls hH hls => W.widen hc hs (vx_ret (W.lret hx hb hr (fun t ht hW => ⟨_, rfl, rfl, by rw [ht]; exact hH.2.1, z_WH hH ht⟩) hH.1.2.2 d))
theorem z_vret (C : zC x cc own nm nL F L none) (M : zM x MC MS) (hc : cells ≤ MC) (hs : slots ≤ MS) (d : decode cc pc = .ok (.return_, 1)) (h : zrV V n = some w) : zZ x nL cells slots w V n pc lv [] := by
  have h := Option.some.inj h
  subst h
  obtain ⟨p, l, e, R, s, m, args, below, meth, c, D, dA, V0, n0, mc, ms⟩ := x
  obtain ⟨hx, hb, hml, hown, hts, hK, hn0, hlocks, hr, -⟩ := C
  obtain ⟨rfl, rfl⟩ := M
  exact fun H locs ls hH hls => W.widen hc hs (vx_ret (W.vret hx hb hr (fun t ht hW => ⟨_, rfl, rfl, by rw [ht]; exact hH.2.1, z_WH hH ht⟩) hH.1.2.2 d))
theorem z_aret {E : String} (C : zC x cc own nm nL F L (some (.object E))) (M : zM x MC MS) (hc : cells ≤ MC) (hs : slots ≤ MS) (d : decode cc pc = .ok (.areturn, 1)) {v : Option Nat} (h : zrR v V n = some w) : zZ x nL cells slots w V n pc lv [va_rf v] := by
  have h := Option.some.inj h
  subst h
  obtain ⟨p, l, e, R, s, m, args, below, meth, c, D, dA, V0, n0, mc, ms⟩ := x
  obtain ⟨hx, hb, hml, hown, hts, hK, hn0, hlocks, hr, -⟩ := C
  obtain ⟨rfl, rfl⟩ := M
  exact fun H locs ls hH hls => W.widen hc hs (vx_ret (W.aret hx hb hr (Or.inl ⟨_, rfl⟩) (by cases v with | none => exact Or.inl rfl | some a => exact Or.inr ⟨a, rfl⟩) (fun t ht hW => ⟨_, rfl, rfl, by rw [ht]; exact hH.2.1, z_WH hH ht⟩) hH.1.2.2 d))
theorem z_XCt {D : va_G} {dA : Nat → ClassId} {V0 : zV} {n0 : Nat} {s t : State} {H : Heap} {locs : List Loc} {cls : String} (hH : z_H D dA zcl (z_A V0 n0) s.heap V n H locs) (h1 : H.size ≤ t.heap.size) (h2 : ∀ q : Nat, q < H.size → t.heap[q]? = H[q]?) : z_XC D dA V0 n0 (.inr cls, V, n) cls s t := by
  refine ⟨rfl, fun a y ha => (hH.2.2.1 a y ha).kept (h2 a (hH.2.2.1.lt ha)), hH.2.2.2, Nat.le_trans hH.1.1 h1, fun q g1 g2 => ?_⟩
  rw [h2 q (Nat.lt_of_lt_of_le g1 hH.1.1)]
  exact hH.1.2.1 q g1 g2
theorem z_hat {A : Nat → Prop} {s : State} {args : Array Value} {own cls : String} {ic : Nat} (hts : ∀ w ∈ zTs, w.before args s = true) (hT : zT A s) (hc : (cls, cls) ∈ zcast) (h : ∀ w ∈ vx_atS own ic cls znames, w ∈ zTs ∨ w = .castable cls cls ∨ w ∈ zdecl.map Cond.declares) : ∀ w ∈ vx_atS own ic cls znames, w.before args s = true := by
  intro w hw
  rcases h w hw with h | h | h
  · exact hts w h
  · rw [h]; exact va_Nw.use rfl (hT.2.2.2.2.1 _ hc)
  · obtain ⟨y, hy, e⟩ := List.mem_map.mp h
    rw [← e]; exact va_Nw.use rfl (hT.2.2.2.2.2.1 _ hy)
theorem z_throwS (C : zC x cc own nm nL F L ret) (M : zM x MC MS) {ik is ic : Nat} {cls text : String} (hq : zThr own ik is ic cls text) (hF : 5 < F) (hL : (st.map fun v => v.category).sum + 82 ≤ L) (hc : cells + 1 ≤ MC) (hs : slots + 6 ≤ MS)
    (d0 : decode cc pc = .ok (.new ik, 3)) (d3 : decode cc (pc + 3) = .ok (.dup, 1)) (d4 : decode cc (pc + 4) = .ok (.ldc is, 2)) (d6 : decode cc (pc + 6) = .ok (.invokespecial ic, 3)) (d9 : decode cc (pc + 9) = .ok (.athrow, 1)) (h : zth cls V n = some w) : zZ x nL cells slots w V n pc lv st := by
  have h := Option.some.inj h
  subst h
  obtain ⟨p, l, e, R, s, m, args, below, meth, c, D, dA, V0, n0, mc, ms⟩ := x
  obtain ⟨hx, hb, hml, hown, hts, hK, hn0, hlocks, hr, hnm, hout, hl, hR⟩ := C
  obtain ⟨rfl, rfl⟩ := M
  obtain ⟨q1, q2, q3, q4, q5, q6, q7⟩ := hq
  obtain ⟨sa, hstr⟩ := hK.2.2.2.2.1 _ q4
  exact fun H locs ls hH hls => vx_throwS hx hb hl hown q1 znames_fit (hts _ q2) (hts _ q3) hstr (z_hat hts hK.2.2 q5 q6) q7 hK.2.2.1 hK.2.2.2.1 hH.1 (hls.1.trans hml.symm) d0 d3 d4 d6 d9 (fun y hy => (hout y hy).elim) (by rw [hR]; exact hF) (by rw [hR]; exact hL) (by rw [hR]; exact hc) (by rw [hR]; exact hs) hlocks (fun t h0 h1 h2 => z_XCt hH h1 h2) hH.1.2.2 hc hs
theorem z_throwSW (C : zC x cc own nm nL F L ret) (M : zM x MC MS) {ik is ic : Nat} {cls text : String} (hq : zThr own ik is ic cls text) (hF : 5 < F) (hL : (st.map fun v => v.category).sum + 82 ≤ L) (hc : cells + 1 ≤ MC) (hs : slots + 6 ≤ MS)
    (d0 : decode cc pc = .ok (.new ik, 3)) (d3 : decode cc (pc + 3) = .ok (.dup, 1)) (d4 : decode cc (pc + 4) = .ok (.ldc_w is, 3)) (d7 : decode cc (pc + 7) = .ok (.invokespecial ic, 3)) (d10 : decode cc (pc + 10) = .ok (.athrow, 1)) (h : zth cls V n = some w) : zZ x nL cells slots w V n pc lv st := by
  have h := Option.some.inj h
  subst h
  obtain ⟨p, l, e, R, s, m, args, below, meth, c, D, dA, V0, n0, mc, ms⟩ := x
  obtain ⟨hx, hb, hml, hown, hts, hK, hn0, hlocks, hr, hnm, hout, hl, hR⟩ := C
  obtain ⟨rfl, rfl⟩ := M
  obtain ⟨q1, q2, q3, q4, q5, q6, q7⟩ := hq
  obtain ⟨sa, hstr⟩ := hK.2.2.2.2.1 _ q4
  exact fun H locs ls hH hls => vx_throwSW hx hb hl hown q1 znames_fit (hts _ q2) (hts _ q3) hstr (z_hat hts hK.2.2 q5 q6) q7 hK.2.2.1 hK.2.2.2.1 hH.1 (hls.1.trans hml.symm) d0 d3 d4 d7 d10 (fun y hy => (hout y hy).elim) (by rw [hR]; exact hF) (by rw [hR]; exact hL) (by rw [hR]; exact hc) (by rw [hR]; exact hs) hlocks (fun t h0 h1 h2 => z_XCt hH h1 h2) hH.1.2.2 hc hs
end ZE
end
section
/-! MAKING cells; casts; null; a switch; Math.max, Math.min; System.arraycopy within one array -/
def zna (V : zV) (n t B : Nat) (len : Int32) (K : Nat → Option zR) : Option zR := if len < 0 ∨ B < len.toNatClampNeg then none else K len.toNatClampNeg
def zinst (V : zV) (r : Option Nat) (cs : List Nat) (ci : Nat) : Option Int32 := (z_obj V r cs).bind fun o => some (if o.2.1 = ci then 1 else 0)
def zsw (v : Int32) (N : Nat) (B : Nat → Option zR) (D : Option zR) : Option zR := if v < 0 ∨ N ≤ v.toNatClampNeg then D else B v.toNatClampNeg
def zcpI (V : zV) (r : Option Nat) (t : Nat) (sp dp m : Int32) : Option zV := (z_arr V r t).bind fun q => match q.2.2 with
  | .inl f => if sp < 0 ∨ dp < 0 ∨ m < 0 ∨ q.2.1 < sp.toNatClampNeg + m.toNatClampNeg ∨ q.2.1 < dp.toNatClampNeg + m.toNatClampNeg then none else some (z_up V q.1 (.inl (t, q.2.1, .inl (va_cpy f f sp.toNatClampNeg dp.toNatClampNeg m.toNatClampNeg))))
  | _ => none
def zcpL (V : zV) (r : Option Nat) (t : Nat) (sp dp m : Int32) : Option zV := (z_arr V r t).bind fun q => match q.2.2 with
  | .inr (.inl f) => if sp < 0 ∨ dp < 0 ∨ m < 0 ∨ q.2.1 < sp.toNatClampNeg + m.toNatClampNeg ∨ q.2.1 < dp.toNatClampNeg + m.toNatClampNeg then none else some (z_up V q.1 (.inl (t, q.2.1, .inr (.inl (va_cpy f f sp.toNatClampNeg dp.toNatClampNeg m.toNatClampNeg)))))
  | _ => none
section ZN
variable {x : zX} {cc : ByteArray} {own nm : String} {nL F L MC MS : Nat} {ret : Option FieldType} {cells slots : Nat} {w : zR} {V : zV} {n pc : Nat} {lv lv' : List (Nat × Value)} {st : List Value}
theorem z_new (C : zC x cc own nm nL F L ret) (M : zM x MC MS) {ci idx N : Nat} {C1 : String} {T : u_T} {ty : Nat → FieldType} {fs : List Value} (hc : zcl[ci]? = some (C1, T, N)) (hin : ∀ w ∈ u_ws C1 T N, w ∈ zTs) (hty : ∀ k, k < N → parseFieldDescriptor (T k).2.2.1 = some (ty k)) (hfs : ∀ j, j < N → defaultValue (ty j) = vp_V fs j) (h1 : Cond.classLink own idx C1 ∈ zTs) (h2 : Cond.instantiable C1 N ∈ zTs) (h3 : Cond.initialized C1 ∈ zTs) (hcells : cells + 1 ≤ MC) (hslots : slots + N ≤ MS) (d : decode cc pc = .ok (.new idx, 3)) (k9 : zZ x nL (cells + 1) (slots + N) w (z_up V n (.inr (ci, fs))) (n + 1) (pc + 3) lv (va_rf (some n) :: st)) : zZ x nL cells slots w V n pc lv st := by
  obtain ⟨p, l, e, R, s, m, args, below, meth, c, D, dA, V0, n0, mc, ms⟩ := x
  obtain ⟨hx, hb, hml, hown, hts, hK, hn0, hlocks, hr, hnm, hout, hl, hR⟩ := C
  obtain ⟨rfl, rfl⟩ := M
  intro H locs ls hH hls
  have hKn := hK.1.1 ci _ hc
  refine W.newcK hx hb hown (hts _ h1) (hts _ h2) (hts _ h3) rfl d (by rw [hR]; exact hcells) (by rw [hR]; exact hslots) hKn.2.1 hH.2.1 fun H1 kC hkC e1 z1 o1 => ?_
  exact k9 H1 locs ls (hH.push (fun q hq => Or.inr (by omega)) (x := .inr (ci, fs)) ⟨_, hc, (u_born ty hts hin hKn hkC e1 hty).to hfs⟩ z1 o1) hls
theorem z_newa (C : zC x cc own nm nL F L ret) (M : zM x MC MS) {t B : Nat} {at9 : ArrayType} {ty : FieldType} {u : (Nat → Int32) ⊕ (Nat → Int64) ⊕ (Nat → UInt32) ⊕ (Nat → UInt64) ⊕ (Nat → Option Nat)} {len : Int32} (ht : ztl[t]? = some ty) (hty : newarray.typeOf at9 = ty) (hcl : Cond.arrayClass ty ∈ zTs) (hra : ∀ (s : State) (cA : ClassId), va_RA s cA ty = (s.vm.findClass ("[" ++ ty.toString) = some cA)) (hu : ∀ (cA : ClassId) (N : Nat), vp_cell cA (N, u) = arrV cA N (fun _ => defaultValue ty)) (hB : B * componentBytes ty ≤ 536870912) (hcells : cells + 1 ≤ MC) (hslots : slots + B ≤ MS) (d : decode cc pc = .ok (.newarray at9, 2)) {K : Nat → Option zR} (h : zna V n t B len K = some w) (k9 : ∀ N : Nat, N = len.toNatClampNeg → ¬ len < 0 → N ≤ B → K N = some w → zZ x nL (cells + 1) (slots + B) w (z_up V n (.inl (t, N, u))) (n + 1) (pc + 2) lv (va_rf (some n) :: st)) : zZ x nL cells slots w V n pc lv (.int len :: st) := by
  unfold zna at h
  by_cases hb9 : len < 0 ∨ B < len.toNatClampNeg
  · rw [if_pos hb9] at h; cases h
  · rw [if_neg hb9] at h
    have hn0 : ¬ len < 0 := fun q => hb9 (Or.inl q)
    have hlB : len.toNatClampNeg ≤ B := Nat.not_lt.mp fun q => hb9 (Or.inr q)
    have k8 := k9 _ rfl hn0 hlB h
    subst hty
    obtain ⟨p, l, e, R, s, m, args, below, meth, c, D, dA, V0, n0, mc, ms⟩ := x
    obtain ⟨hx, hb, hml, hown, hts, hK, hn0', hlocks, hr, hnm, hout, hl, hR⟩ := C
    obtain ⟨rfl, rfl⟩ := M
    intro H locs ls hH hls
    refine va_newaK hx hb (hts _ hcl) rfl d rfl hn0 rfl (Nat.le_trans (Nat.mul_le_mul_right _ hlB) hB) (by rw [hR]; exact hcells) (by rw [hR]; exact Nat.le_trans (Nat.add_le_add_left hlB _) hslots) hH.2.1 fun H1 cA e1 z1 o1 hA9 hf9 => ?_
    have hra9 := (hK.2.1 t _ ht).2
    rw [hra] at hra9
    cases hf9.symm.trans hra9
    refine W.widen (Nat.le_refl _) (Nat.add_le_add_left hlB _) (k8 H1 locs ls (hH.push (fun q hq => Or.inr (by omega)) (x := .inl (t, len.toNatClampNeg, u)) ?_ z1 o1) hls)
    show H1[n]? = some (vp_cell _ _)
    rw [hu]; exact e1
theorem z_anew (C : zC x cc own nm nL F L ret) (M : zM x MC MS) {t B idx : Nat} {E : String} {len : Int32} (ht : ztl[t]? = some (.object E)) (h1 : Cond.classLink own idx E ∈ zTs) (h2 : E ∈ zao) (hB : B * 4 ≤ 536870912) (hcells : cells + 1 ≤ MC) (hslots : slots + B ≤ MS) (d : decode cc pc = .ok (.anewarray idx, 3)) {K : Nat → Option zR} (h : zna V n t B len K = some w) (k9 : ∀ N : Nat, N = len.toNatClampNeg → ¬ len < 0 → N ≤ B → K N = some w → zZ x nL (cells + 1) (slots + B) w (z_up V n (.inl (t, N, .inr (.inr (.inr (.inr (fun _ => none))))))) (n + 1) (pc + 3) lv (va_rf (some n) :: st)) : zZ x nL cells slots w V n pc lv (.int len :: st) := by
  unfold zna at h
  by_cases hb9 : len < 0 ∨ B < len.toNatClampNeg
  · rw [if_pos hb9] at h; cases h
  · rw [if_neg hb9] at h
    have hn0 : ¬ len < 0 := fun q => hb9 (Or.inl q)
    have hlB : len.toNatClampNeg ≤ B := Nat.not_lt.mp fun q => hb9 (Or.inr q)
    have k8 := k9 _ rfl hn0 hlB h
    obtain ⟨p, l, e, R, s, m, args, below, meth, c, D, dA, V0, n0, mc, ms⟩ := x
    obtain ⟨hx, hb, hml, hown, hts, hK, hn0', hlocks, hr, hnm, hout, hl, hR⟩ := C
    obtain ⟨rfl, rfl⟩ := M
    intro H locs ls hH hls
    refine W.anew hx hb hown (hts _ h1) (va_AO.use (hK.2.2.2.2.2.2.2.2.2 _ h2)) rfl d rfl hn0 (Nat.le_trans (Nat.mul_le_mul_right _ hlB) hB) (by rw [hR]; exact hcells) (by rw [hR]; exact Nat.le_trans (Nat.add_le_add_left hlB _) hslots) fun cA kA comp f1 f2 f3 f4 => ?_
    obtain ⟨kA', comp', g1, g2, g3, g4⟩ := (hK.2.1 t _ ht).2
    cases f1.symm.trans g4
    have hsz : H.size = n := hH.2.1
    rw [hsz]
    refine W.widen (Nat.le_refl _) (Nat.add_le_add_left hlB _) (k8 _ locs ls (hH.push (fun q hq => Or.inr (by omega)) (x := .inl (t, len.toNatClampNeg, .inr (.inr (.inr (.inr (fun _ => none)))))) ?_ (by rw [Array.size_push, hsz]) (fun q hq => by rw [Array.getElem?_push_lt (by omega), Array.getElem?_eq_getElem (by omega)])) hls)
    show (H.push _)[n]? = some (vp_cell _ _)
    rw [← hsz, Array.getElem?_push_size, arrV_new, vp_cell_q]
    rfl
theorem z_inst (C : zC x cc own nm nL F L ret) {r : Option Nat} {cs : List Nat} {ci idx : Nat} {E : String} (h1 : Cond.classLink own idx E ∈ zTs) (hE : ∀ cj ∈ cs, ∃ q, zcl[cj]? = some q ∧ ((cj = ci ∧ (q.1, E) ∈ zcast) ∨ (cj ≠ ci ∧ (q.1, E) ∈ znc))) (d : decode cc pc = .ok (.instanceof idx, 3)) {K : Int32 → Option zR} (h : (zinst V r cs ci).bind K = some w) (k9 : ∀ v, K v = some w → zZ x nL cells slots w V n (pc + 3) lv (.int v :: st)) : zZ x nL cells slots w V n pc lv (va_rf r :: st) := by
  unfold zinst at h
  cases ho : z_obj V r cs with
  | none => rw [ho] at h; cases h
  | some o =>
    rw [ho] at h
    obtain ⟨rfl, g2, g3⟩ := z_obj_some ho
    simp only [Option.bind_some] at h
    have k8 := k9 _ h
    obtain ⟨a, cj, fs⟩ := o
    dsimp only at g2 g3 k8 ⊢
    obtain ⟨q, hc, hq⟩ := hE cj (by simpa using g3)
    obtain ⟨p, l, e, R, s, m, args, below, meth, c, D, dA, V0, n0, mc, ms⟩ := x
    obtain ⟨hx, hb, hml, hown, hts, hK, -⟩ := C
    intro H locs ls hH hls
    have hrec := va_recv hK.1 (hH.2.2.1.one g2) (ci := cj) (q0 := 0) hc rfl
    rcases hq with ⟨e9, e8⟩ | ⟨e9, e8⟩
    · rw [if_pos e9] at k8
      exact va_instY hx hb hown (hts _ h1) (hK.2.2.2.2.2.2.1 _ e8) hrec d (k8 H locs ls hH hls)
    · rw [if_neg e9] at k8
      exact va_instNo hx hb hown (hts _ h1) (hK.2.2.2.2.2.1 _ e8) hrec d (k8 H locs ls hH hls)
theorem z_chk (C : zC x cc own nm nL F L ret) {r : Option Nat} {cs : List Nat} {idx : Nat} {E : String} (h1 : Cond.classLink own idx E ∈ zTs) (hE : ∀ cj ∈ cs, ∃ q, zcl[cj]? = some q ∧ (q.1, E) ∈ zcast) (d : decode cc pc = .ok (.checkcast idx, 3)) {K : Nat × Nat × List Value → Option zR} (h : (z_obj V r cs).bind K = some w) (k9 : ∀ o, K o = some w → zZ x nL cells slots w V n (pc + 3) lv (va_rf r :: st)) : zZ x nL cells slots w V n pc lv (va_rf r :: st) := by
  cases ho : z_obj V r cs with
  | none => rw [ho] at h; cases h
  | some o =>
    rw [ho] at h
    obtain ⟨rfl, g2, g3⟩ := z_obj_some ho
    simp only [Option.bind_some] at h
    have k8 := k9 _ h
    obtain ⟨a, cj, fs⟩ := o
    dsimp only at g2 g3 k8 ⊢
    obtain ⟨q, hc, hq⟩ := hE cj (by simpa using g3)
    obtain ⟨p, l, e, R, s, m, args, below, meth, c, D, dA, V0, n0, mc, ms⟩ := x
    obtain ⟨hx, hb, hml, hown, hts, hK, -⟩ := C
    exact fun H locs ls hH hls => va_castY hx hb hown (hts _ h1) (hK.2.2.2.2.2.2.1 _ hq) (va_recv hK.1 (hH.2.2.1.one g2) (ci := cj) (q0 := 0) hc rfl) d (k8 H locs ls hH hls)
theorem z_ifnonnull (C : zC x cc own nm nL F L ret) {r : Option Nat} {off : Int} {A B : Option zR} (tgt : Nat) (d : decode cc pc = .ok (.ifnonnull off, 3)) (ht : (pc : Int) + off = (tgt : Int)) (h : (if r = none then B else A) = some w) (kt : A = some w → zZ x nL cells slots w V n tgt lv st) (kf : B = some w → zZ x nL cells slots w V n (pc + 3) lv st) : zZ x nL cells slots w V n pc lv (va_rf r :: st) := by
  obtain ⟨p, l, e, R, s, m, args, below, meth, c, D, dA, V0, n0, mc, ms⟩ := x
  intro H locs ls hH hls
  cases r with
  | none => exact lv_ifnonnullN C.1 C.2.1 d (kf (by rw [if_pos rfl] at h; exact h) H locs ls hH hls)
  | some a => exact lv_ifnonnull C.1 C.2.1 d ht (kt (by rw [if_neg (by simp)] at h; exact h) H locs ls hH hls)
theorem z_tsw (C : zC x cc own nm nL F L ret) {v : Int32} {dflt : Int} {N len : Nat} {hi : Int} {offs : Array Int} {B : Nat → Option zR} {Dd : Option zR} (hN : hi + 1 = (N : Int)) (hN2 : N < 2 ^ 31) (d : decode cc pc = .ok (.tableswitch dflt 0 hi offs, len)) (tgt : Nat) (ht : (pc : Int) + dflt = (tgt : Int)) (tg : Nat → Nat) (hoffs : ∀ i, i < N → ∃ off, offs[i]? = some off ∧ (pc : Int) + off = (tg i : Int)) (h : zsw v N B Dd = some w) (kd : Dd = some w → zZ x nL cells slots w V n tgt lv st) (kk : ∀ i, i < N → v = nI i → B i = some w → zZ x nL cells slots w V n (tg i) lv st) : zZ x nL cells slots w V n pc lv (.int v :: st) := by
  unfold zsw at h
  by_cases hin : v < 0 ∨ N ≤ v.toNatClampNeg
  · rw [if_pos hin] at h
    have k8 := kd h
    have hout : v.toInt < 0 ∨ hi < v.toInt := by
      by_cases q0 : v < 0
      · exact Or.inl (by simpa using Int32.lt_iff_toInt_lt.mp q0)
      · have q : N ≤ v.toNatClampNeg := hin.resolve_left q0
        have q1 : (0 : Int) ≤ v.toInt := by simpa using Int32.le_iff_toInt_le.mp (Int32.not_lt.mp q0)
        refine Or.inr ?_
        have : v.toInt.toNat = v.toNatClampNeg := rfl
        omega
    obtain ⟨p, l, e, R, s, m, args, below, meth, c, D, dA, V0, n0, mc, ms⟩ := x
    exact fun H locs ls hH hls => lv_tableOut C.1 C.2.1 d hout ht (k8 H locs ls hH hls)
  · rw [if_neg hin] at h
    obtain ⟨j, hj, rfl⟩ := vp_in_of (x := v) (n := N) hin hN2
    rw [nI_clamp (by omega)] at h
    have k8 := kk j hj rfl h
    obtain ⟨off, ho, hto⟩ := hoffs j hj
    obtain ⟨p, l, e, R, s, m, args, below, meth, c, D, dA, V0, n0, mc, ms⟩ := x
    have hv : (nI j).toInt = (j : Int) := nI_toInt (by omega)
    exact fun H locs ls hH hls => lv_tableIn C.1 C.2.1 d (by rw [hv]; omega) (by rw [hv]; omega) (by rw [hv, show ((j : Int) - 0).toNat = j by omega]; exact ho) hto (k8 H locs ls hH hls)
theorem z_max (C : zC x cc own nm nL F L ret) (M : zM x MC MS) {a b : Int32} {idx : Nat} (h1 : Cond.methodLink own idx Lib.Math.max.name ∈ zTs) (h2 : Cond.static Lib.Math.max.name ∈ zTs) (h3 : Cond.initialized "java/lang/Math" ∈ zTs) (h4 : Cond.code Lib.Math.max.name Lib.Math.max.code 2 (some .int) ∈ zTs) (hF : 1 ≤ F) (hL : (st.map fun v => v.category).sum + 13 ≤ L) (hc : cells ≤ MC) (hs : slots ≤ MS) (d : decode cc pc = .ok (.invokestatic idx, 3)) (k9 : zZ x nL cells slots w V n (pc + 3) lv (.int (if a < b then b else a) :: st)) : zZ x nL cells slots w V n pc lv (.int b :: .int a :: st) := by
  obtain ⟨p, l, e, R, s, m, args, below, meth, c, D, dA, V0, n0, mc, ms⟩ := x
  obtain ⟨hx, hb, hml, hown, hts, hK, hn0, hlocks, hr, hnm, hout, hl, hR⟩ := C
  obtain ⟨rfl, rfl⟩ := M
  exact fun H locs ls hH hls => va_mmax hx hb (hml.trans hls.1.symm) hown (hts _ h1) (hts _ h2) (hts _ h3) (hts _ h4) (by rw [hR]; exact hF) (by rw [hR]; exact hL) (by rw [hR]; exact hc) (by rw [hR]; exact hs) d (k9 H locs ls hH hls)
theorem z_min (C : zC x cc own nm nL F L ret) (M : zM x MC MS) {a b : Int32} {idx : Nat} (h1 : Cond.methodLink own idx Lib.Math.min.name ∈ zTs) (h2 : Cond.static Lib.Math.min.name ∈ zTs) (h3 : Cond.initialized "java/lang/Math" ∈ zTs) (h4 : Cond.code Lib.Math.min.name Lib.Math.min.code 2 (some .int) ∈ zTs) (hF : 1 ≤ F) (hL : (st.map fun v => v.category).sum + 13 ≤ L) (hc : cells ≤ MC) (hs : slots ≤ MS) (d : decode cc pc = .ok (.invokestatic idx, 3)) (k9 : zZ x nL cells slots w V n (pc + 3) lv (.int (if b < a then b else a) :: st)) : zZ x nL cells slots w V n pc lv (.int b :: .int a :: st) := by
  obtain ⟨p, l, e, R, s, m, args, below, meth, c, D, dA, V0, n0, mc, ms⟩ := x
  obtain ⟨hx, hb, hml, hown, hts, hK, hn0, hlocks, hr, hnm, hout, hl, hR⟩ := C
  obtain ⟨rfl, rfl⟩ := M
  exact fun H locs ls hH hls => va_mmin hx hb (hml.trans hls.1.symm) hown (hts _ h1) (hts _ h2) (hts _ h3) (hts _ h4) (by rw [hR]; exact hF) (by rw [hR]; exact hL) (by rw [hR]; exact hc) (by rw [hR]; exact hs) d (k9 H locs ls hH hls)
end ZN
end
section
section ZY
variable {x : zX} {cc : ByteArray} {own nm : String} {nL F L MC MS : Nat} {ret : Option FieldType} {cells slots : Nat} {w : zR} {V : zV} {n pc : Nat} {lv lv' : List (Nat × Value)} {st : List Value}
theorem z_nn (z : Int32) (hz : ¬ z < 0) : z.toInt = (z.toNatClampNeg : Int) := by
  have hz0 : (0 : Int) ≤ z.toInt := by
    have := Int32.not_lt.mp hz
    simpa using Int32.le_iff_toInt_le.mp this
  show z.toInt = ((z.toInt.toNat : Nat) : Int)
  omega
theorem z_copyI (C : zC x cc own nm nL F L ret) {r : Option Nat} {t idx : Nat} {sp dp k : Int32} (ht : ztl[t]? = some .int) (g1 : Cond.methodLink own idx arraycopyName ∈ zTs) (g2 : Cond.native arraycopyName ∈ zTs) (g3 : Cond.static arraycopyName ∈ zTs) (g4 : Cond.initialized "java/lang/System" ∈ zTs) (hF : 1 ≤ F) (hL : (st.map fun v => v.category).sum + (nativeFrameWords "java/lang/System" "arraycopy" 5 + 11) ≤ L) (d : decode cc pc = .ok (.invokestatic idx, 3)) {K : zV → Option zR} (h : (zcpI V r t sp dp k).bind K = some w) (k9 : ∀ V', K V' = some w → zZ x nL cells slots w V' n (pc + 3) lv st) : zZ x nL cells slots w V n pc lv (.int k :: .int dp :: va_rf r :: .int sp :: va_rf r :: st) := by
  unfold zcpI at h
  cases ho : z_arr V r t with
  | none => rw [ho] at h; cases h
  | some q =>
    rw [ho] at h
    obtain ⟨rfl, h2⟩ := z_arr_some ho
    simp only [Option.bind_some] at h
    obtain ⟨a, N, u⟩ := q
    dsimp only at h h2
    split at h
    · rename_i f
      by_cases hin : sp < 0 ∨ dp < 0 ∨ k < 0 ∨ N < sp.toNatClampNeg + k.toNatClampNeg ∨ N < dp.toNatClampNeg + k.toNatClampNeg
      · rw [if_pos hin] at h; cases h
      · rw [if_neg hin] at h
        have k8 := k9 _ h
        simp only [not_or] at hin
        obtain ⟨h1, h3, h4, h5, h6⟩ := hin
        have e1 := z_nn sp h1
        have e2 := z_nn dp h3
        have e3 := z_nn k h4
        obtain ⟨p, l, e, R, s, m, args, below, meth, c, D, dA, V0, n0, mc, ms⟩ := x
        obtain ⟨hx, hb, hml, hown, hts, hK, hn0, hlocks, hr, hnm, hout, hl, hR⟩ := C
        intro H locs ls hH hls T hT X
        have hc1 : H[a]? = some (vp_cell (dA t) (N, .inl f)) := hH.2.2.1 a _ h2
        obtain ⟨-, k1, hk1, cm1, hkk1⟩ := (hK.2.1 t _ ht).1 N (fun j => .int (f j))
        obtain ⟨vm', X', step⟩ := X.arraycopy hx hown (hts _ g1) (hts _ g2) (hts _ g3) (hts _ g4) (src := a) (dst := a) (cs := vp_cell (dA t) (N, .inl f)) (cd := vp_cell (dA t) (N, .inl f)) (srcPos := sp) (destPos := dp) (n := k) (by rw [hT]; exact hc1) (by rw [hT]; exact hc1)
          (fun _ h => by cases h) (fun _ h => by cases h) (fun h => by cases h) (fun h => by cases h) hk1 hk1 hkk1 hkk1 (by simp [refKind]) h1 h3 h4
          (by rw [e1, e3]; show ¬ _ > ((arrV (dA t) N (fun j => .int (f j))).slots.size : Int); rw [arrV_size]; omega)
          (by rw [e2, e3]; show ¬ _ > ((arrV (dA t) N (fun j => .int (f j))).slots.size : Int); rw [arrV_size]; omega)
          (fun vm₁ _ i hi => by
            have e : (vp_cell (dA t) (N, .inl f)).slots.getD (sp.toNatClampNeg + i) .null = .int (f (sp.toNatClampNeg + i)) := by
              show (arrV (dA t) N (fun j => .int (f j))).slots.getD _ _ = _
              rw [Array.getD_eq_getD_getElem?, arrV_read _ _ (by omega)]
              rfl
            refine ⟨?_, ?_⟩
            · rw [e]
              rfl
            · rw [e]
              exact trivial)
          (g := F0 m pc ls (.int k :: .int dp :: .ref a :: .int sp :: .ref a :: st)) rfl (by rw [hml]; exact hls.1) (rest := st) rfl (by rw [hb]; exact d) (by rw [hR]; exact hF) (by rw [hR]; show 2 * 0 + _ + _ ≤ L; omega)
        have e9 : copied (vp_cell (dA t) (N, .inl f)) (vp_cell (dA t) (N, .inl f)) sp dp k = vp_cell (dA t) (N, .inl (va_cpy f f sp.toNatClampNeg dp.toNatClampNeg k.toNatClampNeg)) := va_copied (fun z => .int z) (dA t) (dA t) f f (by omega)
        rw [e9] at X' step
        have hlt : a < H.size := (Array.getElem?_eq_some_iff.mp hc1).1
        have hheap : ((T.setVm vm').setCell a (vp_cell (dA t) (N, .inl (va_cpy f f sp.toNatClampNeg dp.toNatClampNeg k.toNatClampNeg)))).heap = H.setIfInBounds a (vp_cell (dA t) (N, .inl (va_cpy f f sp.toNatClampNeg dp.toNatClampNeg k.toNatClampNeg))) := by rw [← hT]; rfl
        have oq : ∀ q : Nat, q ≠ a → (H.setIfInBounds a (vp_cell (dA t) (N, .inl (va_cpy f f sp.toNatClampNeg dp.toNatClampNeg k.toNatClampNeg))))[q]? = H[q]? := fun q hq => by simp [Array.getElem?_setIfInBounds, Ne.symm hq]
        have hz9 := hH.put (k := 0) h2 (x := .inl (t, N, .inl (va_cpy f f sp.toNatClampNeg dp.toNatClampNeg k.toNatClampNeg))) (H1 := H.setIfInBounds a (vp_cell (dA t) (N, .inl (va_cpy f f sp.toNatClampNeg dp.toNatClampNeg k.toNatClampNeg)))) (show (H.setIfInBounds a _)[a]? = some _ by simp [Array.getElem?_setIfInBounds, hlt]) (by simp) oq
        obtain ⟨t9, a1, b1⟩ := k8 _ _ ls ⟨⟨hz9.1.1, hz9.1.2.1, fun q hq => by
          rcases List.mem_append.mp hq with h | h
          · exact hH.1.2.2 q h
          · obtain ⟨z, -, hz⟩ := List.mem_map.mp h
            rw [← hz]
            exact hH.2.2.2 a _ h2⟩, hz9.2⟩ hls _ hheap X'
        exact ⟨t9, step t9 a1, b1⟩
    · cases h
theorem z_copyL (C : zC x cc own nm nL F L ret) {r : Option Nat} {t idx : Nat} {sp dp k : Int32} (ht : ztl[t]? = some .long) (g1 : Cond.methodLink own idx arraycopyName ∈ zTs) (g2 : Cond.native arraycopyName ∈ zTs) (g3 : Cond.static arraycopyName ∈ zTs) (g4 : Cond.initialized "java/lang/System" ∈ zTs) (hF : 1 ≤ F) (hL : (st.map fun v => v.category).sum + (nativeFrameWords "java/lang/System" "arraycopy" 5 + 11) ≤ L) (d : decode cc pc = .ok (.invokestatic idx, 3)) {K : zV → Option zR} (h : (zcpL V r t sp dp k).bind K = some w) (k9 : ∀ V', K V' = some w → zZ x nL cells slots w V' n (pc + 3) lv st) : zZ x nL cells slots w V n pc lv (.int k :: .int dp :: va_rf r :: .int sp :: va_rf r :: st) := by
  unfold zcpL at h
  cases ho : z_arr V r t with
  | none => rw [ho] at h; cases h
  | some q =>
    rw [ho] at h
    obtain ⟨rfl, h2⟩ := z_arr_some ho
    simp only [Option.bind_some] at h
    obtain ⟨a, N, u⟩ := q
    dsimp only at h h2
    split at h
    · rename_i f
      by_cases hin : sp < 0 ∨ dp < 0 ∨ k < 0 ∨ N < sp.toNatClampNeg + k.toNatClampNeg ∨ N < dp.toNatClampNeg + k.toNatClampNeg
      · rw [if_pos hin] at h; cases h
      · rw [if_neg hin] at h
        have k8 := k9 _ h
        simp only [not_or] at hin
        obtain ⟨h1, h3, h4, h5, h6⟩ := hin
        have e1 := z_nn sp h1
        have e2 := z_nn dp h3
        have e3 := z_nn k h4
        obtain ⟨p, l, e, R, s, m, args, below, meth, c, D, dA, V0, n0, mc, ms⟩ := x
        obtain ⟨hx, hb, hml, hown, hts, hK, hn0, hlocks, hr, hnm, hout, hl, hR⟩ := C
        intro H locs ls hH hls T hT X
        have hc1 : H[a]? = some (vp_cell (dA t) (N, .inr (.inl f))) := hH.2.2.1 a _ h2
        obtain ⟨-, k1, hk1, cm1, hkk1⟩ := (hK.2.1 t _ ht).1 N (fun j => .long (f j))
        obtain ⟨vm', X', step⟩ := X.arraycopy hx hown (hts _ g1) (hts _ g2) (hts _ g3) (hts _ g4) (src := a) (dst := a) (cs := vp_cell (dA t) (N, .inr (.inl f))) (cd := vp_cell (dA t) (N, .inr (.inl f))) (srcPos := sp) (destPos := dp) (n := k) (by rw [hT]; exact hc1) (by rw [hT]; exact hc1)
          (fun _ h => by cases h) (fun _ h => by cases h) (fun h => by cases h) (fun h => by cases h) hk1 hk1 hkk1 hkk1 (by simp [refKind]) h1 h3 h4
          (by rw [e1, e3]; show ¬ _ > ((arrV (dA t) N (fun j => .long (f j))).slots.size : Int); rw [arrV_size]; omega)
          (by rw [e2, e3]; show ¬ _ > ((arrV (dA t) N (fun j => .long (f j))).slots.size : Int); rw [arrV_size]; omega)
          (fun vm₁ _ i hi => by
            have e : (vp_cell (dA t) (N, .inr (.inl f))).slots.getD (sp.toNatClampNeg + i) .null = .long (f (sp.toNatClampNeg + i)) := by
              show (arrV (dA t) N (fun j => .long (f j))).slots.getD _ _ = _
              rw [Array.getD_eq_getD_getElem?, arrV_read _ _ (by omega)]
              rfl
            refine ⟨?_, ?_⟩
            · rw [e]
              rfl
            · rw [e]
              exact trivial)
          (g := F0 m pc ls (.int k :: .int dp :: .ref a :: .int sp :: .ref a :: st)) rfl (by rw [hml]; exact hls.1) (rest := st) rfl (by rw [hb]; exact d) (by rw [hR]; exact hF) (by rw [hR]; show 2 * 0 + _ + _ ≤ L; omega)
        have e9 : copied (vp_cell (dA t) (N, .inr (.inl f))) (vp_cell (dA t) (N, .inr (.inl f))) sp dp k = vp_cell (dA t) (N, .inr (.inl (va_cpy f f sp.toNatClampNeg dp.toNatClampNeg k.toNatClampNeg))) := va_copied (fun z => .long z) (dA t) (dA t) f f (by omega)
        rw [e9] at X' step
        have hlt : a < H.size := (Array.getElem?_eq_some_iff.mp hc1).1
        have hheap : ((T.setVm vm').setCell a (vp_cell (dA t) (N, .inr (.inl (va_cpy f f sp.toNatClampNeg dp.toNatClampNeg k.toNatClampNeg))))).heap = H.setIfInBounds a (vp_cell (dA t) (N, .inr (.inl (va_cpy f f sp.toNatClampNeg dp.toNatClampNeg k.toNatClampNeg)))) := by rw [← hT]; rfl
        have oq : ∀ q : Nat, q ≠ a → (H.setIfInBounds a (vp_cell (dA t) (N, .inr (.inl (va_cpy f f sp.toNatClampNeg dp.toNatClampNeg k.toNatClampNeg)))))[q]? = H[q]? := fun q hq => by simp [Array.getElem?_setIfInBounds, Ne.symm hq]
        have hz9 := hH.put (k := 0) h2 (x := .inl (t, N, .inr (.inl (va_cpy f f sp.toNatClampNeg dp.toNatClampNeg k.toNatClampNeg)))) (H1 := H.setIfInBounds a (vp_cell (dA t) (N, .inr (.inl (va_cpy f f sp.toNatClampNeg dp.toNatClampNeg k.toNatClampNeg))))) (show (H.setIfInBounds a _)[a]? = some _ by simp [Array.getElem?_setIfInBounds, hlt]) (by simp) oq
        obtain ⟨t9, a1, b1⟩ := k8 _ _ ls ⟨⟨hz9.1.1, hz9.1.2.1, fun q hq => by
          rcases List.mem_append.mp hq with h | h
          · exact hH.1.2.2 q h
          · obtain ⟨z, -, hz⟩ := List.mem_map.mp h
            rw [← hz]
            exact hH.2.2.2 a _ h2⟩, hz9.2⟩ hls _ hheap X'
        exact ⟨t9, step t9 a1, b1⟩
    · cases h
end ZY
end
section
/-! CALLS. A method's contract: over the map V of size n it comes to the end w -/
def z_Met (l : Launch) (y : MethodName) (bytes : ByteArray) (maxL : Nat) (ret : Option FieldType) (F L mc ms : Nat) (av : List Value) (D : va_G) (dA : Nat → ClassId) (V : zV) (n : Nat) (w : zR) : Prop :=
  vx_Met l y (Cond.code y bytes maxL ret :: zTs) { frames := F, cells := mc, slots := ms, locals := L } (va_Pc av (fun U => U.heap.size = n ∧ z_P D dA zcl V U.heap ∧ zK D dA (z_A V n) U)) (z_Q D dA V n w) (z_XC D dA V n w) mc ms (z_A V n)
/-- from the walk of the body to the contract -/
theorem z_ofZ {l : Launch} {y : MethodName} {bytes : ByteArray} {maxL : Nat} {ret : Option FieldType} {F L mc ms : Nat} {av : List Value} {D : va_G} {dA : Nat → ClassId} {V : zV} {n : Nat} {w : zR} (hl : l.stackTraces = false) (hy : plainName y.cls = true) (hav : (lg_sl av).length ≤ maxL)
    (body : ∀ x : zX, zC x bytes y.cls y.name maxL F L ret → zM x mc ms → zZ x maxL 0 0 w V n 0 (lv_args 0 av) []) : z_Met l y bytes maxL ret F L mc ms av D dA V n w := by
  refine vx_ofW (cc := bytes) (maxL := maxL) (ret := ret) hy rfl ?_
  intro p e s m args below meth c s₁ B hml hout hv
  obtain ⟨rfl, hsz, hP, hK⟩ := hv
  have hts := atoms_spec (ws := Cond.code y bytes maxL ret :: zTs) B.pre
  have hnm := (name_of_methodNamed B.named B.method).1
  have h := body (p, l, e, { frames := F, cells := mc, slots := ms, locals := L }, s, m, av.toArray, below, meth, c, D, dA, V, n, mc, ms) ⟨B.exec, B.bytes, hml, findClass_of_methodNamed B.named, fun w hw => hts w (List.mem_cons_of_mem _ hw), hK, hsz, B.notSynchronized, B.returns, hnm, hout, hl, rfl⟩ ⟨rfl, rfl⟩
  have hl0 := lv_entry av (n := maxL) hav
  rw [lg_entry_eq]
  exact h s.heap [] _ ⟨va_S.rf, hsz, hP, fun a y ha => Or.inl ⟨y, ha⟩⟩ hl0
/-- what a call gives back -/
def zcall (fr : Option zR) (K : Option Value → zV → Nat → Option zR) : Option zR := fr.bind fun w1 => match w1.1 with
  | .inl v => K v w1.2.1 w1.2.2
  | .inr E => some (.inr E, w1.2)
def zcI (fr : Option zR) (K : Int32 → zV → Nat → Option zR) : Option zR := zcall fr fun v V n => match v with
  | some (.int i) => K i V n
  | _ => none
def zcL (fr : Option zR) (K : Int64 → zV → Nat → Option zR) : Option zR := zcall fr fun v V n => match v with
  | some (.long i) => K i V n
  | _ => none
def zcR (fr : Option zR) (K : Option Nat → zV → Nat → Option zR) : Option zR := zcall fr fun v V n => match v with
  | some (.ref a) => K (some a) V n
  | some .null => K none V n
  | _ => none
def zcV (fr : Option zR) (K : zV → Nat → Option zR) : Option zR := zcall fr fun v V n => match v with
  | none => K V n
  | _ => none
theorem zc_call {fr : Option zR} {K : Option Value → zV → Nat → Option zR} {w w1 : zR} (h : zcall fr K = some w) (h1 : fr = some w1) : (∃ v, w1.1 = .inl v ∧ K v w1.2.1 w1.2.2 = some w) ∨ ∃ E, w1.1 = .inr E ∧ w = (.inr E, w1.2) := by
  unfold zcall at h
  rw [h1] at h
  simp only [Option.bind_some] at h
  obtain ⟨o, V1, n1⟩ := w1
  cases o with
  | inl v => exact Or.inl ⟨v, rfl, h⟩
  | inr E => exact Or.inr ⟨E, rfl, (Option.some.inj h).symm⟩
section ZK
variable {x : zX} {cc : ByteArray} {own nm : String} {nL F L MC MS : Nat} {ret : Option FieldType} {cells slots : Nat} {w w1 : zR} {V : zV} {n pc : Nat} {lv lv' : List (Nat × Value)} {st st0 rest : List Value}
/-- the run of a call at this place: whatever the heap is that holds V -/
def zRun (x : zX) (nL cells slots mc1 ms1 : Nat) (w1 : zR) (V : zV) (n pc : Nat) (lv : List (Nat × Value)) (st0 rest : List Value) : Prop := match x with
  | (p, l, e, R, s, m, args, below, meth, c, D, dA, V0, n0, _, _) => ∀ (H : Heap) (locs : List Loc) (ls : Array Slot), z_H D dA zcl (z_A V0 n0) s.heap V n H locs → lv_has ls nL lv → ∃ a1 : Array Value, vx_Run p l e R s m args below meth c H locs cells slots mc1 ms1 (F0 m pc ls st0) rest (z_Q D dA V n w1 a1) (z_XC D dA V n w1) (z_A V n)
theorem z_AA {V0 : zV} {n0 : Nat} {D : va_G} {dA : Nat → ClassId} {s : State} {H : Heap} {locs : List Loc} (hn : s.heap.size = n0) (hH : z_H D dA zcl (z_A V0 n0) s.heap V n H locs) : ∀ q, z_A V n q → z_A V0 n0 q := by
  intro q h
  rcases h with ⟨y, h⟩ | h
  · exact hH.2.2.2 q y h
  · exact Or.inr (by have := hH.1.1; have := hH.2.1; omega)
theorem z_core (C : zC x cc own nm nL F L ret) (M : zM x MC MS) {mc1 ms1 : Nat} (hrun : zRun x nL cells slots mc1 ms1 w1 V n pc lv st0 rest)
    (kk : ∀ v, w1.1 = .inl v → zZ x nL (cells + mc1) (slots + ms1) w w1.2.1 w1.2.2 (pc + 3) lv (v.toList ++ rest))
    (kx : ∀ E, w1.1 = .inr E → w = (.inr E, w1.2) ∧ cells + mc1 ≤ MC ∧ slots + ms1 ≤ MS) : zZ x nL cells slots w V n pc lv st0 := by
  obtain ⟨p, l, e, R, s, m, args, below, meth, c, D, dA, V0, n0, mc, ms⟩ := x
  obtain ⟨hx, hb, hml, hown, hts, hK, hn0, hlocks, hr, hnm, hout, hl, hR⟩ := C
  obtain ⟨rfl, rfl⟩ := M
  intro H locs ls hH hls T hT X
  have hAA := z_AA hn0 hH
  obtain ⟨a1, hr9⟩ := hrun H locs ls hH hls
  rcases hr9 T hT X with ⟨v, st₀, t, T', L1, h0, X', hL, e1, e2, ⟨v', hv1, hv2, hsz, hP', hA', hF⟩, st⟩ | ⟨q, st₀, t, T', L1, E, ce, h0, X', hL, e1, e2, ⟨hE, hP', hA', hF⟩, hce, hcv, hcl, st⟩
  · cases hv2
    obtain ⟨k1, k2, k3⟩ := vx_keep h0 e1 hH.1 (fun q _ h => hAA q h) hAA hL hF
    obtain ⟨t2, b1, b2⟩ := kk v hv1 T'.heap (locs ++ L1) ls ⟨k3, by rw [e1]; exact hsz, by rw [e1]; exact hP', fun a y ha => hAA a (hA' a y ha)⟩ hls T' rfl X'
    exact ⟨t2, st t2 b1, b2⟩
  · obtain ⟨rfl, hc9, hs9⟩ := kx E hE
    obtain ⟨k1, k2, k3⟩ := vx_keep h0 e1 hH.1 (fun q _ h => hAA q h) hAA hL hF
    obtain ⟨t2, b1, b2⟩ := vx_out (Qc := z_Q D dA V0 n0 (.inr E, w1.2)) (XC := z_XC D dA V0 n0 (.inr E, w1.2)) (free := z_A V0 n0) (ls := ls) (rest := rest) (pc := pc) (fun y hy => (hout y hy).elim) hlocks (by rw [e1]; exact hce) hcv hcl (fun t9 ht9 _ => ⟨rfl, by rw [ht9, e1]; exact hP', fun a y ha => hAA a (hA' a y ha), k3.F ht9⟩) k3.2.2 hc9 hs9 T' rfl X'
    exact ⟨t2, st.trans b1, b2⟩
/-- words of a call by invokevirtual of a method of the class C1 -/
def zCV (own : String) (idx : Nat) (C1 : String) (y : MethodName) (bytes : ByteArray) (maxL : Nat) (rt : Option FieldType) (k : Nat) : Prop := (Cond.methodLink own idx y ∈ zTs ∧ Cond.instanceMethod y ∈ zTs ∧ Cond.selects C1 y y ∈ zTs ∧ Cond.initialized C1 ∈ zTs ∧ Cond.code y bytes maxL rt ∈ zTs) ∧ y.cls = C1 ∧ y.cls ≠ "java/lang/invoke/MethodHandle" ∧ y.cls ≠ "java/lang/invoke/VarHandle" ∧ (parseMethodDescriptor y.desc).map (fun d => d.parameters.length) = some k
theorem z_goodC {y : MethodName} {bytes : ByteArray} {maxL : Nat} {rt : Option FieldType} (h : Cond.code y bytes maxL rt ∈ zTs) : GoodIn zTs (Cond.code y bytes maxL rt :: zTs) := fun w hw => (List.mem_cons.mp hw).elim (fun e => by rw [e]; exact zTs_good _ h) (zTs_good w)
theorem z_preV {x : zX} (C : zC x cc own nm nL F L ret) {b ci : Nat} {fs As : List Value} {C1 : String} {T : u_T} {N : Nat} (hV : V b = some (.inr (ci, fs))) (hc : zcl[ci]? = some (C1, T, N)) : match x with
  | (_, _, _, _, s, _, _, _, _, _, D, dA, V0, n0, _, _) => ∀ (H : Heap) (locs : List Loc), z_H D dA zcl (z_A V0 n0) s.heap V n H locs → PreV s H C1 b (va_Pc (.ref b :: As) (fun U => U.heap.size = n ∧ z_P D dA zcl V U.heap ∧ zK D dA (z_A V n) U)) As := by
  obtain ⟨p, l, e, R, s, m, args, below, meth, c, D, dA, V0, n0, mc, ms⟩ := x
  obtain ⟨hx, hb, hml, hown, hts, hK, hn0, hlocks, hr, hnm, hout, hl, hR⟩ := C
  intro H locs hH
  refine ⟨fun a U g mk q => ?_, va_recv hK.1 (hH.2.2.1.one hV) (ci := ci) (q0 := 0) hc rfl, fun U hU hW => ⟨rfl, by rw [hU]; exact hH.2.1, by rw [hU]; exact hH.2.2.1, hK.move hH.1 hU hW (z_AA hn0 hH)⟩⟩
  obtain ⟨q0, q1, q2, q3⟩ := q
  exact ⟨q0, q1, q2, q3.move (va_S.rf) rfl (State.WarmedH.refl U) (fun _ h => h)⟩
theorem z_preS {x : zX} (C : zC x cc own nm nL F L ret) {As : List Value} : match x with
  | (_, _, _, _, s, _, _, _, _, _, D, dA, V0, n0, _, _) => ∀ (H : Heap) (locs : List Loc), z_H D dA zcl (z_A V0 n0) s.heap V n H locs → PreS s H (va_Pc As (fun U => U.heap.size = n ∧ z_P D dA zcl V U.heap ∧ zK D dA (z_A V n) U)) As := by
  obtain ⟨p, l, e, R, s, m, args, below, meth, c, D, dA, V0, n0, mc, ms⟩ := x
  obtain ⟨hx, hb, hml, hown, hts, hK, hn0, hlocks, hr, hnm, hout, hl, hR⟩ := C
  intro H locs hH
  refine ⟨fun a U g mk q => ?_, fun U hU hW => ⟨rfl, by rw [hU]; exact hH.2.1, by rw [hU]; exact hH.2.2.1, hK.move hH.1 hU hW (z_AA hn0 hH)⟩⟩
  obtain ⟨q0, q1, q2, q3⟩ := q
  exact ⟨q0, q1, q2, q3.move (va_S.rf) rfl (State.WarmedH.refl U) (fun _ h => h)⟩
theorem z_runV (C : zC x cc own nm nL F L ret) (M : zM x MC MS) {y : MethodName} {bytes : ByteArray} {maxL k idx b ci F1 L1 mc1 ms1 N : Nat} {rt : Option FieldType} {C1 : String} {T : u_T} {fs As : List Value} (hw : zCV own idx C1 y bytes maxL rt k) (hV : V b = some (.inr (ci, fs))) (hc : zcl[ci]? = some (C1, T, N))
    (hM : ∀ (l : Launch) (D : va_G) (dA : Nat → ClassId), l.stackTraces = false → z_Met l y bytes maxL rt F1 L1 mc1 ms1 (.ref b :: As) D dA V n w1) (hF : F1 + 1 ≤ F) (hL : 8 + (maxL + 11) + L1 ≤ L) (hk : As.length = k) (hst : st0 = As.reverse ++ .ref b :: rest) (hrm : (rest.map fun v => v.category).sum ≤ 8) (d : decode cc pc = .ok (.invokevirtual idx, 3)) (hc1 : cells + mc1 ≤ MC) (hs1 : slots + ms1 ≤ MS) : zRun x nL cells slots mc1 ms1 w1 V n pc lv st0 rest := by
  have hp := z_preV C (As := As) (n := n) hV hc
  obtain ⟨p, l, e, R, s, m, args, below, meth, c, D, dA, V0, n0, mc, ms⟩ := x
  obtain ⟨hx, hb, hml, hown, hts, hK, hn0, hlocks, hr, hnm, hout, hl, hR⟩ := C
  obtain ⟨rfl, rfl⟩ := M
  intro H locs ls hH hls
  obtain ⟨⟨q1, q2, q3, q4, q5⟩, q6⟩ := hw
  refine ⟨_, vx_runV ⟨hx, hb, hml, hown, hts⟩ (hM l D dA hl) (cwV k hts (fun w hw => ?_) rfl rfl rfl q6 (by rw [hR]; exact ⟨hF, hL⟩)) (hp H locs hH) rfl hk hls.1 hst (lv_room hrm) d (by rw [hR]; exact ⟨hc1, hs1⟩)⟩
  rcases List.mem_append.mp hw with h | h
  · simp only [List.mem_cons, List.not_mem_nil, or_false] at h
    rcases h with h | h | h | h
    · rw [h]; exact zTs_good _ q1
    · rw [h]; exact zTs_good _ q2
    · rw [h]; exact zTs_good _ q3
    · rw [h]; exact zTs_good _ q4
  · exact z_goodC q5 w h
end ZK
end
section
/-! CALLS, by kinds: V a method of a known class, A an abstract method by the receiver's class, I a constructor; P a callee that makes nothing but what it throws, S one that makes at most mc1 cells of ms1 slots -/
section ZQ
variable {x : zX} {cc : ByteArray} {own nm : String} {nL F L MC MS : Nat} {ret : Option FieldType} {cells slots : Nat} {w w1 : zR} {V : zV} {n pc : Nat} {lv lv' : List (Nat × Value)} {st st0 rest : List Value}
/-- the room that a throw of the callee's needs -/
def zRm (w : zR) (cells slots MC MS : Nat) : Prop := (cells ≤ MC ∧ slots ≤ MS) ∧ ∀ (E : String) (u : zV × Nat), w = (.inr E, u) → cells + 1 ≤ MC ∧ slots + 6 ≤ MS
theorem zRmP : zRm w 0 0 (zc w) (zs w) := ⟨⟨Nat.zero_le _, Nat.zero_le _⟩, fun E u e => by rw [e]; exact ⟨Nat.le_refl _, Nat.le_refl _⟩⟩
theorem zRmS (h1 : cells + 1 ≤ MC) (h2 : slots + 6 ≤ MS) : zRm w cells slots MC MS := ⟨⟨by omega, by omega⟩, fun _ _ _ => ⟨h1, h2⟩⟩
theorem z_cP (C : zC x cc own nm nL F L ret) (M : zM x MC MS) (hr : zRm w cells slots MC MS) {fr : Option zR} {K : Option Value → zV → Nat → Option zR} (h : zcall fr K = some w) (hrun : ∀ w1, fr = some w1 → cells + zc w1 ≤ MC → slots + zs w1 ≤ MS → zRun x nL cells slots (zc w1) (zs w1) w1 V n pc lv st0 rest) (kk : ∀ v V' n', K v V' n' = some w → zZ x nL cells slots w V' n' (pc + 3) lv (v.toList ++ rest)) : zZ x nL cells slots w V n pc lv st0 := by
  cases hfr : fr with
  | none => rw [hfr] at h; cases h
  | some w1 =>
    rcases zc_call h hfr with ⟨v, hv, hK⟩ | ⟨E, hE, hw⟩
    · have e1 : zc w1 = 0 := by unfold zc; rw [hv]
      have e2 : zs w1 = 0 := by unfold zs; rw [hv]
      refine z_core C M (hrun w1 hfr (by rw [e1]; exact hr.1.1) (by rw [e2]; exact hr.1.2)) (fun v' hv' => ?_) (fun E hE => ?_)
      · rw [hv] at hv'
        cases hv'
        rw [e1, e2]
        exact kk v _ _ hK
      · rw [hv] at hE; cases hE
    · have e1 : zc w1 = 1 := by unfold zc; rw [hE]
      have e2 : zs w1 = 6 := by unfold zs; rw [hE]
      obtain ⟨g1, g2⟩ := hr.2 E _ hw
      refine z_core C M (hrun w1 hfr (by rw [e1]; exact g1) (by rw [e2]; exact g2)) (fun v' hv' => ?_) (fun E' hE' => ?_)
      · rw [hE] at hv'; cases hv'
      · rw [hE] at hE'
        cases hE'
        exact ⟨hw, by rw [e1]; exact g1, by rw [e2]; exact g2⟩
theorem z_cS (C : zC x cc own nm nL F L ret) (M : zM x MC MS) {mc1 ms1 : Nat} (h1 : cells + mc1 ≤ MC) (h2 : slots + ms1 ≤ MS) {fr : Option zR} {K : Option Value → zV → Nat → Option zR} (h : zcall fr K = some w) (hrun : ∀ w1, fr = some w1 → zRun x nL cells slots mc1 ms1 w1 V n pc lv st0 rest) (kk : ∀ v V' n', K v V' n' = some w → zZ x nL (cells + mc1) (slots + ms1) w V' n' (pc + 3) lv (v.toList ++ rest)) : zZ x nL cells slots w V n pc lv st0 := by
  cases hfr : fr with
  | none => rw [hfr] at h; cases h
  | some w1 =>
    rcases zc_call h hfr with ⟨v, hv, hK⟩ | ⟨E, hE, hw⟩
    · refine z_core C M (hrun w1 hfr) (fun v' hv' => ?_) (fun E hE => ?_)
      · rw [hv] at hv'
        cases hv'
        exact kk v _ _ hK
      · rw [hv] at hE; cases hE
    · refine z_core C M (hrun w1 hfr) (fun v' hv' => ?_) (fun E' hE' => ?_)
      · rw [hE] at hv'; cases hv'
      · rw [hE] at hE'
        cases hE'
        exact ⟨hw, h1, h2⟩
theorem z_toMet {l : Launch} {y : MethodName} {bytes : ByteArray} {maxL : Nat} {rt : Option FieldType} {F1 L1 mc ms : Nat} {av : List Value} {D : va_G} {dA : Nat → ClassId} {v : Option Value} (h : z_Met l y bytes maxL rt F1 L1 mc ms av D dA V n w) (hv : w.1 = .inl v) : Met l y (Cond.code y bytes maxL rt :: zTs) { frames := F1, cells := mc, slots := ms, locals := L1 } (va_Pc av (fun U => U.heap.size = n ∧ z_P D dA zcl V U.heap ∧ zK D dA (z_A V n) U)) (z_Q D dA V n w) mc ms (z_A V n) := by
  intro p e a1 a2 a3 s m args below h1 h2 h3 h4
  obtain ⟨k, o, b1, b2, b3, b4⟩ := h p e a1 a2 a3 s m args below h1 h2 h3 h4
  refine ⟨k, o, b1, b2, b3, ?_⟩
  rcases b4 with b4 | ⟨q, -, E, ce, L9, ⟨hx, -⟩, -⟩
  · exact b4
  · rw [hv] at hx; cases hx
theorem z_toRun {p : Program} {l : Launch} {e : Env} {R : Room} {s : State} {m : MethodId} {args : Array Value} {below : List Frame} {meth : Method} {c : Code} {H : Heap} {locs : List Loc} {mc ms : Nat} {g : JFrame} {Qa : State → Outcome → State → Prop} {XC : String → State → State → Prop} {free : Addr → Prop} (h : va_Run p l e R s m args below meth c H locs cells slots mc ms g rest Qa free) : vx_Run p l e R s m args below meth c H locs cells slots mc ms g rest Qa XC free := fun T hT X => Or.inl (h T hT X)
/-- words of a call by the name of an abstract method xn of the class owner, on a receiver of the class C1 -/
def zCA (own : String) (idx : Nat) (C1 owner : String) (xn y : MethodName) (bytes : ByteArray) (maxL : Nat) (rt : Option FieldType) (k : Nat) : Prop := (Cond.methodLink own idx xn ∈ zTs ∧ Cond.sameMethod xn.cls owner xn.name xn.desc ∈ zTs ∧ Cond.selects C1 xn y ∈ zTs ∧ Cond.instanceMethod y ∈ zTs ∧ Cond.initialized y.cls ∈ zTs ∧ Cond.code y bytes maxL rt ∈ zTs) ∧ (⟨owner, xn.name, xn.desc⟩ : MethodName) ∈ zdecl ∧ owner ≠ "java/lang/invoke/MethodHandle" ∧ owner ≠ "java/lang/invoke/VarHandle" ∧ (parseMethodDescriptor xn.desc).map (fun d => d.parameters.length) = some k
theorem z_runA (C : zC x cc own nm nL F L ret) (M : zM x MC MS) {xn y : MethodName} {bytes : ByteArray} {maxL k idx b ci F1 L1 mc1 ms1 N : Nat} {rt : Option FieldType} {C1 owner : String} {T : u_T} {fs As : List Value} {v : Option Value} (hw : zCA own idx C1 owner xn y bytes maxL rt k) (hV : V b = some (.inr (ci, fs))) (hc : zcl[ci]? = some (C1, T, N))
    (hM : ∀ (l : Launch) (D : va_G) (dA : Nat → ClassId), l.stackTraces = false → z_Met l y bytes maxL rt F1 L1 mc1 ms1 (.ref b :: As) D dA V n w1) (hv : w1.1 = .inl v) (hF : F1 + 1 ≤ F) (hL : 8 + (maxL + 11) + L1 ≤ L) (hk : As.length = k) (hst : st0 = As.reverse ++ .ref b :: rest) (hrm : (rest.map fun v => v.category).sum ≤ 8) (d : decode cc pc = .ok (.invokevirtual idx, 3)) (hc1 : cells + mc1 ≤ MC) (hs1 : slots + ms1 ≤ MS) : zRun x nL cells slots mc1 ms1 w1 V n pc lv st0 rest := by
  have hp := z_preV C (As := As) (n := n) hV hc
  obtain ⟨p, l, e, R, s, m, args, below, meth, c, D, dA, V0, n0, mc, ms⟩ := x
  obtain ⟨hx, hb, hml, hown, hts, hK, hn0, hlocks, hr, hnm, hout, hl, hR⟩ := C
  obtain ⟨rfl, rfl⟩ := M
  intro H locs ls hH hls
  obtain ⟨⟨q1, q2, q3, q4, q5, q6⟩, q7, q8⟩ := hw
  refine ⟨_, z_toRun (va_runU ⟨hx, hb, hml, hown, hts⟩ (z_toMet (hM l D dA hl) hv) (va_cwA (owner := owner) k hts (fun w hw => ?_) rfl rfl rfl (hK.2.2.2.2.2.2.2.1 _ q7) q8 (by rw [hR]; exact ⟨hF, hL⟩)) (hp H locs hH) rfl hk hls.1 hst (lv_room hrm) d (by rw [hR]; exact ⟨hc1, hs1⟩))⟩
  rcases List.mem_append.mp hw with h | h
  · simp only [List.mem_cons, List.not_mem_nil, or_false] at h
    rcases h with h | h | h | h | h
    · rw [h]; exact zTs_good _ q1
    · rw [h]; exact zTs_good _ q2
    · rw [h]; exact zTs_good _ q3
    · rw [h]; exact zTs_good _ q4
    · rw [h]; exact zTs_good _ q5
  · exact z_goodC q6 w h
/-- words of a constructor's call -/
def zCI (own : String) (idx : Nat) (y : MethodName) (bytes : ByteArray) (maxL k : Nat) : Prop := Cond.methodLink own idx y ∈ zTs ∧ Cond.instanceMethod y ∈ zTs ∧ Cond.initialized y.cls ∈ zTs ∧ Cond.code y bytes maxL none ∈ zTs ∧ y.name = "<init>" ∧ y.cls ≠ "java/lang/invoke/MethodHandle" ∧ y.cls ≠ "java/lang/invoke/VarHandle" ∧ (parseMethodDescriptor y.desc).map (fun d => d.parameters.length) = some k
theorem z_runI (C : zC x cc own nm nL F L ret) (M : zM x MC MS) {y : MethodName} {bytes : ByteArray} {maxL k idx b F1 L1 mc1 ms1 : Nat} {As : List Value} {v : Option Value} (hw : zCI own idx y bytes maxL k)
    (hM : ∀ (l : Launch) (D : va_G) (dA : Nat → ClassId), l.stackTraces = false → z_Met l y bytes maxL none F1 L1 mc1 ms1 (.ref b :: As) D dA V n w1) (hv : w1.1 = .inl v) (hF : F1 + 1 ≤ F) (hL : 8 + (maxL + 11) + L1 ≤ L) (hk : As.length = k) (hst : st0 = As.reverse ++ .ref b :: rest) (hrm : (rest.map fun v => v.category).sum ≤ 8) (d : decode cc pc = .ok (.invokespecial idx, 3)) (hc1 : cells + mc1 ≤ MC) (hs1 : slots + ms1 ≤ MS) : zRun x nL cells slots mc1 ms1 w1 V n pc lv st0 rest := by
  have hp := z_preS C (As := .ref b :: As) (V := V) (n := n)
  obtain ⟨p, l, e, R, s, m, args, below, meth, c, D, dA, V0, n0, mc, ms⟩ := x
  obtain ⟨hx, hb, hml, hown, hts, hK, hn0, hlocks, hr, hnm, hout, hl, hR⟩ := C
  obtain ⟨rfl, rfl⟩ := M
  intro H locs ls hH hls
  obtain ⟨q1, q2, q3, q4, q5, q6⟩ := hw
  exact ⟨_, z_toRun (va_runI ⟨hx, hb, hml, hown, hts⟩ (z_toMet (hM l D dA hl) hv) (cwI k hts (z_goodC q4) rfl rfl rfl (hts _ q3) (hts _ q1) (hts _ q2) q5 q6 (by rw [hR]; exact ⟨hF, hL⟩)) (hp H locs hH) rfl hk hls.1 hst (lv_room hrm) d (by rw [hR]; exact ⟨hc1, hs1⟩))⟩
/-- .. of the private one of a nest mate -/
def zCN (y : MethodName) (bytes : ByteArray) (maxL k : Nat) : Prop := Cond.instanceMethod y ∈ zTs ∧ Cond.initialized y.cls ∈ zTs ∧ Cond.code y bytes maxL none ∈ zTs ∧ y.name = "<init>" ∧ y.cls ≠ "java/lang/invoke/MethodHandle" ∧ y.cls ≠ "java/lang/invoke/VarHandle" ∧ (parseMethodDescriptor y.desc).map (fun d => d.parameters.length) = some k
theorem z_runN (C : zC x cc "BarrierMarks" nm nL F L ret) (M : zM x MC MS) {bytes : ByteArray} {maxL k b F1 L1 mc1 ms1 : Nat} {As : List Value} {v : Option Value} (hw : zCN ⟨"BarrierMarks$AckRow", "<init>", "()V"⟩ bytes maxL k)
    (hM : ∀ (l : Launch) (D : va_G) (dA : Nat → ClassId), l.stackTraces = false → z_Met l ⟨"BarrierMarks$AckRow", "<init>", "()V"⟩ bytes maxL none F1 L1 mc1 ms1 (.ref b :: As) D dA V n w1) (hv : w1.1 = .inl v) (hF : F1 + 1 ≤ F) (hL : 8 + (maxL + 11) + L1 ≤ L) (hk : As.length = k) (hst : st0 = As.reverse ++ .ref b :: rest) (hrm : (rest.map fun v => v.category).sum ≤ 8) (d : decode cc pc = .ok (.invokespecial 23, 3)) (hc1 : cells + mc1 ≤ MC) (hs1 : slots + ms1 ≤ MS) : zRun x nL cells slots mc1 ms1 w1 V n pc lv st0 rest := by
  have hp := z_preS C (As := .ref b :: As) (V := V) (n := n)
  obtain ⟨p, l, e, R, s, m, args, below, meth, c, D, dA, V0, n0, mc, ms⟩ := x
  obtain ⟨hx, hb, hml, hown, hts, hK, hn0, hlocks, hr, hnm, hout, hl, hR⟩ := C
  obtain ⟨rfl, rfl⟩ := M
  intro H locs ls hH hls
  obtain ⟨q2, q3, q4, q5, q6⟩ := hw
  exact ⟨_, z_toRun (va_runIN (host := "BarrierMarks") ⟨hx, hb, hml, hown, hts⟩ (z_toMet (hM l D dA hl) hv) ⟨va_cnB k hts (z_goodC q4) rfl rfl rfl hK.2.2.2.2.2.2.2.2.1 (hts _ q3) q6 (by rw [hR]; exact ⟨hF, hL⟩), q5, hts _ q2⟩ (hp H locs hH) rfl hk hls.1 hst (lv_room hrm) d (by rw [hR]; exact ⟨hc1, hs1⟩))⟩
theorem z_objInit (C : zC x cc own nm nL F L ret) {idx : Nat} {r : Nat} (h1 : Cond.methodLink own idx Lib.objectInit ∈ zTs) (h2 : Cond.instanceMethod Lib.objectInit ∈ zTs) (h3 : Cond.code Lib.objectInit ⟨#[0xb1]⟩ 1 none ∈ zTs) (hF : 1 ≤ F) (hL : (st.map fun v => v.category).sum + 12 ≤ L) (d : decode cc pc = .ok (.invokespecial idx, 3)) (k9 : zZ x nL cells slots w V n (pc + 3) lv st) : zZ x nL cells slots w V n pc lv (.ref r :: st) := by
  obtain ⟨p, l, e, R, s, m, args, below, meth, c, D, dA, V0, n0, mc, ms⟩ := x
  obtain ⟨hx, hb, hml, hown, hts, hK, hn0, hlocks, hr, hnm, hout, hl, hR⟩ := C
  exact fun H locs ls hH hls => W.objInit hx hb hown (hts _ h1) (hts _ h2) (hts _ h3) rfl (hls.1.trans hml.symm) rfl d (by rw [hR]; exact hF) (by rw [hR]; show 2 * 0 + _ + 12 ≤ L; omega) (k9 H locs ls hH hls)
theorem z_vPI (C : zC x cc own nm nL F L ret) (M : zM x MC MS) {y : MethodName} {bytes : ByteArray} {maxL k idx ci F1 L1 N : Nat} {rt : Option FieldType} {C1 : String} {T : u_T} {r : Option Nat} (hr : zRm w cells slots MC MS) (As : List Value) (hw : zCV own idx C1 y bytes maxL rt k) (hc : zcl[ci]? = some (C1, T, N)) (hF : F1 + 1 ≤ F) (hL : 8 + (maxL + 11) + L1 ≤ L) (hk : As.length = k) (hst : st0 = As.reverse ++ va_rf r :: rest) (hrm : (rest.map fun v => v.category).sum ≤ 8) (d : decode cc pc = .ok (.invokevirtual idx, 3)) (fr : Nat → Option zR) {K : Int32 → zV → Nat → Option zR} (h : ((z_obj V r [ci]).bind fun o => zcI (fr o.1) K) = some w) (hM : ∀ b w1, fr b = some w1 → ∀ (l : Launch) (D : va_G) (dA : Nat → ClassId), l.stackTraces = false → z_Met l y bytes maxL rt F1 L1 (zc w1) (zs w1) (.ref b :: As) D dA V n w1) (kk : ∀ i V' n', K i V' n' = some w → zZ x nL cells slots w V' n' (pc + 3) lv (.int i :: rest)) : zZ x nL cells slots w V n pc lv st0 := by
  cases ho : z_obj V r [ci] with
  | none => rw [ho] at h; cases h
  | some o =>
    rw [ho] at h
    simp only [Option.bind_some] at h
    obtain ⟨rfl, g2, g3⟩ := z_obj_some ho
    obtain ⟨b, cj, fs⟩ := o
    dsimp only at g2 g3 hst h ⊢
    obtain rfl : cj = ci := by simpa using g3
    exact z_cP C M hr h (fun w1 e1 m1 m2 => z_runV C M hw g2 hc (hM b w1 e1) hF hL hk hst hrm d m1 m2) (fun v V' n' hK => by
      cases v with
      | none => cases hK
      | some v => cases v with
        | int i => exact kk i V' n' hK
        | _ => cases hK)
theorem z_vSI (C : zC x cc own nm nL F L ret) (M : zM x MC MS) {y : MethodName} {bytes : ByteArray} {maxL k idx ci F1 L1 N mc1 ms1 : Nat} {rt : Option FieldType} {C1 : String} {T : u_T} {r : Option Nat} (h1 : cells + mc1 ≤ MC) (h2 : slots + ms1 ≤ MS) (As : List Value) (hw : zCV own idx C1 y bytes maxL rt k) (hc : zcl[ci]? = some (C1, T, N)) (hF : F1 + 1 ≤ F) (hL : 8 + (maxL + 11) + L1 ≤ L) (hk : As.length = k) (hst : st0 = As.reverse ++ va_rf r :: rest) (hrm : (rest.map fun v => v.category).sum ≤ 8) (d : decode cc pc = .ok (.invokevirtual idx, 3)) (fr : Nat → Option zR) {K : Int32 → zV → Nat → Option zR} (h : ((z_obj V r [ci]).bind fun o => zcI (fr o.1) K) = some w) (hM : ∀ b w1, fr b = some w1 → ∀ (l : Launch) (D : va_G) (dA : Nat → ClassId), l.stackTraces = false → z_Met l y bytes maxL rt F1 L1 mc1 ms1 (.ref b :: As) D dA V n w1) (kk : ∀ i V' n', K i V' n' = some w → zZ x nL (cells + mc1) (slots + ms1) w V' n' (pc + 3) lv (.int i :: rest)) : zZ x nL cells slots w V n pc lv st0 := by
  cases ho : z_obj V r [ci] with
  | none => rw [ho] at h; cases h
  | some o =>
    rw [ho] at h
    simp only [Option.bind_some] at h
    obtain ⟨rfl, g2, g3⟩ := z_obj_some ho
    obtain ⟨b, cj, fs⟩ := o
    dsimp only at g2 g3 hst h ⊢
    obtain rfl : cj = ci := by simpa using g3
    exact z_cS C M h1 h2 h (fun w1 e1 => z_runV C M hw g2 hc (hM b w1 e1) hF hL hk hst hrm d h1 h2) (fun v V' n' hK => by
      cases v with
      | none => cases hK
      | some v => cases v with
        | int i => exact kk i V' n' hK
        | _ => cases hK)
theorem z_vPL (C : zC x cc own nm nL F L ret) (M : zM x MC MS) {y : MethodName} {bytes : ByteArray} {maxL k idx ci F1 L1 N : Nat} {rt : Option FieldType} {C1 : String} {T : u_T} {r : Option Nat} (hr : zRm w cells slots MC MS) (As : List Value) (hw : zCV own idx C1 y bytes maxL rt k) (hc : zcl[ci]? = some (C1, T, N)) (hF : F1 + 1 ≤ F) (hL : 8 + (maxL + 11) + L1 ≤ L) (hk : As.length = k) (hst : st0 = As.reverse ++ va_rf r :: rest) (hrm : (rest.map fun v => v.category).sum ≤ 8) (d : decode cc pc = .ok (.invokevirtual idx, 3)) (fr : Nat → Option zR) {K : Int64 → zV → Nat → Option zR} (h : ((z_obj V r [ci]).bind fun o => zcL (fr o.1) K) = some w) (hM : ∀ b w1, fr b = some w1 → ∀ (l : Launch) (D : va_G) (dA : Nat → ClassId), l.stackTraces = false → z_Met l y bytes maxL rt F1 L1 (zc w1) (zs w1) (.ref b :: As) D dA V n w1) (kk : ∀ i V' n', K i V' n' = some w → zZ x nL cells slots w V' n' (pc + 3) lv (.long i :: rest)) : zZ x nL cells slots w V n pc lv st0 := by
  cases ho : z_obj V r [ci] with
  | none => rw [ho] at h; cases h
  | some o =>
    rw [ho] at h
    simp only [Option.bind_some] at h
    obtain ⟨rfl, g2, g3⟩ := z_obj_some ho
    obtain ⟨b, cj, fs⟩ := o
    dsimp only at g2 g3 hst h ⊢
    obtain rfl : cj = ci := by simpa using g3
    exact z_cP C M hr h (fun w1 e1 m1 m2 => z_runV C M hw g2 hc (hM b w1 e1) hF hL hk hst hrm d m1 m2) (fun v V' n' hK => by
      cases v with
      | none => cases hK
      | some v => cases v with
        | long i => exact kk i V' n' hK
        | _ => cases hK)
theorem z_vSL (C : zC x cc own nm nL F L ret) (M : zM x MC MS) {y : MethodName} {bytes : ByteArray} {maxL k idx ci F1 L1 N mc1 ms1 : Nat} {rt : Option FieldType} {C1 : String} {T : u_T} {r : Option Nat} (h1 : cells + mc1 ≤ MC) (h2 : slots + ms1 ≤ MS) (As : List Value) (hw : zCV own idx C1 y bytes maxL rt k) (hc : zcl[ci]? = some (C1, T, N)) (hF : F1 + 1 ≤ F) (hL : 8 + (maxL + 11) + L1 ≤ L) (hk : As.length = k) (hst : st0 = As.reverse ++ va_rf r :: rest) (hrm : (rest.map fun v => v.category).sum ≤ 8) (d : decode cc pc = .ok (.invokevirtual idx, 3)) (fr : Nat → Option zR) {K : Int64 → zV → Nat → Option zR} (h : ((z_obj V r [ci]).bind fun o => zcL (fr o.1) K) = some w) (hM : ∀ b w1, fr b = some w1 → ∀ (l : Launch) (D : va_G) (dA : Nat → ClassId), l.stackTraces = false → z_Met l y bytes maxL rt F1 L1 mc1 ms1 (.ref b :: As) D dA V n w1) (kk : ∀ i V' n', K i V' n' = some w → zZ x nL (cells + mc1) (slots + ms1) w V' n' (pc + 3) lv (.long i :: rest)) : zZ x nL cells slots w V n pc lv st0 := by
  cases ho : z_obj V r [ci] with
  | none => rw [ho] at h; cases h
  | some o =>
    rw [ho] at h
    simp only [Option.bind_some] at h
    obtain ⟨rfl, g2, g3⟩ := z_obj_some ho
    obtain ⟨b, cj, fs⟩ := o
    dsimp only at g2 g3 hst h ⊢
    obtain rfl : cj = ci := by simpa using g3
    exact z_cS C M h1 h2 h (fun w1 e1 => z_runV C M hw g2 hc (hM b w1 e1) hF hL hk hst hrm d h1 h2) (fun v V' n' hK => by
      cases v with
      | none => cases hK
      | some v => cases v with
        | long i => exact kk i V' n' hK
        | _ => cases hK)
theorem z_vPR (C : zC x cc own nm nL F L ret) (M : zM x MC MS) {y : MethodName} {bytes : ByteArray} {maxL k idx ci F1 L1 N : Nat} {rt : Option FieldType} {C1 : String} {T : u_T} {r : Option Nat} (hr : zRm w cells slots MC MS) (As : List Value) (hw : zCV own idx C1 y bytes maxL rt k) (hc : zcl[ci]? = some (C1, T, N)) (hF : F1 + 1 ≤ F) (hL : 8 + (maxL + 11) + L1 ≤ L) (hk : As.length = k) (hst : st0 = As.reverse ++ va_rf r :: rest) (hrm : (rest.map fun v => v.category).sum ≤ 8) (d : decode cc pc = .ok (.invokevirtual idx, 3)) (fr : Nat → Option zR) {K : Option Nat → zV → Nat → Option zR} (h : ((z_obj V r [ci]).bind fun o => zcR (fr o.1) K) = some w) (hM : ∀ b w1, fr b = some w1 → ∀ (l : Launch) (D : va_G) (dA : Nat → ClassId), l.stackTraces = false → z_Met l y bytes maxL rt F1 L1 (zc w1) (zs w1) (.ref b :: As) D dA V n w1) (kk : ∀ i V' n', K i V' n' = some w → zZ x nL cells slots w V' n' (pc + 3) lv (va_rf i :: rest)) : zZ x nL cells slots w V n pc lv st0 := by
  cases ho : z_obj V r [ci] with
  | none => rw [ho] at h; cases h
  | some o =>
    rw [ho] at h
    simp only [Option.bind_some] at h
    obtain ⟨rfl, g2, g3⟩ := z_obj_some ho
    obtain ⟨b, cj, fs⟩ := o
    dsimp only at g2 g3 hst h ⊢
    obtain rfl : cj = ci := by simpa using g3
    exact z_cP C M hr h (fun w1 e1 m1 m2 => z_runV C M hw g2 hc (hM b w1 e1) hF hL hk hst hrm d m1 m2) (fun v V' n' hK => by
      cases v with
      | none => cases hK
      | some v => cases v with
        | ref i => exact kk (some i) V' n' hK
        | null => exact kk none V' n' hK
        | _ => cases hK)
theorem z_vSR (C : zC x cc own nm nL F L ret) (M : zM x MC MS) {y : MethodName} {bytes : ByteArray} {maxL k idx ci F1 L1 N mc1 ms1 : Nat} {rt : Option FieldType} {C1 : String} {T : u_T} {r : Option Nat} (h1 : cells + mc1 ≤ MC) (h2 : slots + ms1 ≤ MS) (As : List Value) (hw : zCV own idx C1 y bytes maxL rt k) (hc : zcl[ci]? = some (C1, T, N)) (hF : F1 + 1 ≤ F) (hL : 8 + (maxL + 11) + L1 ≤ L) (hk : As.length = k) (hst : st0 = As.reverse ++ va_rf r :: rest) (hrm : (rest.map fun v => v.category).sum ≤ 8) (d : decode cc pc = .ok (.invokevirtual idx, 3)) (fr : Nat → Option zR) {K : Option Nat → zV → Nat → Option zR} (h : ((z_obj V r [ci]).bind fun o => zcR (fr o.1) K) = some w) (hM : ∀ b w1, fr b = some w1 → ∀ (l : Launch) (D : va_G) (dA : Nat → ClassId), l.stackTraces = false → z_Met l y bytes maxL rt F1 L1 mc1 ms1 (.ref b :: As) D dA V n w1) (kk : ∀ i V' n', K i V' n' = some w → zZ x nL (cells + mc1) (slots + ms1) w V' n' (pc + 3) lv (va_rf i :: rest)) : zZ x nL cells slots w V n pc lv st0 := by
  cases ho : z_obj V r [ci] with
  | none => rw [ho] at h; cases h
  | some o =>
    rw [ho] at h
    simp only [Option.bind_some] at h
    obtain ⟨rfl, g2, g3⟩ := z_obj_some ho
    obtain ⟨b, cj, fs⟩ := o
    dsimp only at g2 g3 hst h ⊢
    obtain rfl : cj = ci := by simpa using g3
    exact z_cS C M h1 h2 h (fun w1 e1 => z_runV C M hw g2 hc (hM b w1 e1) hF hL hk hst hrm d h1 h2) (fun v V' n' hK => by
      cases v with
      | none => cases hK
      | some v => cases v with
        | ref i => exact kk (some i) V' n' hK
        | null => exact kk none V' n' hK
        | _ => cases hK)
theorem z_vPV (C : zC x cc own nm nL F L ret) (M : zM x MC MS) {y : MethodName} {bytes : ByteArray} {maxL k idx ci F1 L1 N : Nat} {rt : Option FieldType} {C1 : String} {T : u_T} {r : Option Nat} (hr : zRm w cells slots MC MS) (As : List Value) (hw : zCV own idx C1 y bytes maxL rt k) (hc : zcl[ci]? = some (C1, T, N)) (hF : F1 + 1 ≤ F) (hL : 8 + (maxL + 11) + L1 ≤ L) (hk : As.length = k) (hst : st0 = As.reverse ++ va_rf r :: rest) (hrm : (rest.map fun v => v.category).sum ≤ 8) (d : decode cc pc = .ok (.invokevirtual idx, 3)) (fr : Nat → Option zR) {K : zV → Nat → Option zR} (h : ((z_obj V r [ci]).bind fun o => zcV (fr o.1) K) = some w) (hM : ∀ b w1, fr b = some w1 → ∀ (l : Launch) (D : va_G) (dA : Nat → ClassId), l.stackTraces = false → z_Met l y bytes maxL rt F1 L1 (zc w1) (zs w1) (.ref b :: As) D dA V n w1) (kk : ∀ V' n', K V' n' = some w → zZ x nL cells slots w V' n' (pc + 3) lv rest) : zZ x nL cells slots w V n pc lv st0 := by
  cases ho : z_obj V r [ci] with
  | none => rw [ho] at h; cases h
  | some o =>
    rw [ho] at h
    simp only [Option.bind_some] at h
    obtain ⟨rfl, g2, g3⟩ := z_obj_some ho
    obtain ⟨b, cj, fs⟩ := o
    dsimp only at g2 g3 hst h ⊢
    obtain rfl : cj = ci := by simpa using g3
    exact z_cP C M hr h (fun w1 e1 m1 m2 => z_runV C M hw g2 hc (hM b w1 e1) hF hL hk hst hrm d m1 m2) (fun v V' n' hK => by
      cases v with
      | none => exact kk V' n' hK
      | some v => cases hK)
theorem z_vSV (C : zC x cc own nm nL F L ret) (M : zM x MC MS) {y : MethodName} {bytes : ByteArray} {maxL k idx ci F1 L1 N mc1 ms1 : Nat} {rt : Option FieldType} {C1 : String} {T : u_T} {r : Option Nat} (h1 : cells + mc1 ≤ MC) (h2 : slots + ms1 ≤ MS) (As : List Value) (hw : zCV own idx C1 y bytes maxL rt k) (hc : zcl[ci]? = some (C1, T, N)) (hF : F1 + 1 ≤ F) (hL : 8 + (maxL + 11) + L1 ≤ L) (hk : As.length = k) (hst : st0 = As.reverse ++ va_rf r :: rest) (hrm : (rest.map fun v => v.category).sum ≤ 8) (d : decode cc pc = .ok (.invokevirtual idx, 3)) (fr : Nat → Option zR) {K : zV → Nat → Option zR} (h : ((z_obj V r [ci]).bind fun o => zcV (fr o.1) K) = some w) (hM : ∀ b w1, fr b = some w1 → ∀ (l : Launch) (D : va_G) (dA : Nat → ClassId), l.stackTraces = false → z_Met l y bytes maxL rt F1 L1 mc1 ms1 (.ref b :: As) D dA V n w1) (kk : ∀ V' n', K V' n' = some w → zZ x nL (cells + mc1) (slots + ms1) w V' n' (pc + 3) lv rest) : zZ x nL cells slots w V n pc lv st0 := by
  cases ho : z_obj V r [ci] with
  | none => rw [ho] at h; cases h
  | some o =>
    rw [ho] at h
    simp only [Option.bind_some] at h
    obtain ⟨rfl, g2, g3⟩ := z_obj_some ho
    obtain ⟨b, cj, fs⟩ := o
    dsimp only at g2 g3 hst h ⊢
    obtain rfl : cj = ci := by simpa using g3
    exact z_cS C M h1 h2 h (fun w1 e1 => z_runV C M hw g2 hc (hM b w1 e1) hF hL hk hst hrm d h1 h2) (fun v V' n' hK => by
      cases v with
      | none => exact kk V' n' hK
      | some v => cases hK)
end ZQ
end
section
/-! CALLS that never throw: an abstract method of Channel, on a Source (class 1) or a Line (class 2); constructors -/
def zdI (fr : Option zR) (K : Int32 → zV → Nat → Option zR) : Option zR := fr.bind fun w1 => match w1.1 with
  | .inl (some (.int i)) => K i w1.2.1 w1.2.2
  | _ => none
def zdL (fr : Option zR) (K : Int64 → zV → Nat → Option zR) : Option zR := fr.bind fun w1 => match w1.1 with
  | .inl (some (.long i)) => K i w1.2.1 w1.2.2
  | _ => none
def zdV (fr : Option zR) (K : zV → Nat → Option zR) : Option zR := fr.bind fun w1 => match w1.1 with
  | .inl none => K w1.2.1 w1.2.2
  | _ => none
section ZD
variable {x : zX} {cc : ByteArray} {own nm : String} {nL F L MC MS : Nat} {ret : Option FieldType} {cells slots : Nat} {w w1 : zR} {V : zV} {n pc : Nat} {lv lv' : List (Nat × Value)} {st st0 rest : List Value}
theorem zd_I {fr : Option zR} {K : Int32 → zV → Nat → Option zR} (h : zdI fr K = some w) : ∃ w1 i, fr = some w1 ∧ w1.1 = .inl (some (.int i)) ∧ K i w1.2.1 w1.2.2 = some w := by
  unfold zdI at h
  cases hfr : fr with
  | none => rw [hfr] at h; cases h
  | some w1 =>
    rw [hfr] at h
    simp only [Option.bind_some] at h
    split at h
    · rename_i i e
      exact ⟨w1, i, rfl, e, h⟩
    · cases h
theorem zd_L {fr : Option zR} {K : Int64 → zV → Nat → Option zR} (h : zdL fr K = some w) : ∃ w1 i, fr = some w1 ∧ w1.1 = .inl (some (.long i)) ∧ K i w1.2.1 w1.2.2 = some w := by
  unfold zdL at h
  cases hfr : fr with
  | none => rw [hfr] at h; cases h
  | some w1 =>
    rw [hfr] at h
    simp only [Option.bind_some] at h
    split at h
    · rename_i i e
      exact ⟨w1, i, rfl, e, h⟩
    · cases h
theorem zd_V {fr : Option zR} {K : zV → Nat → Option zR} (h : zdV fr K = some w) : ∃ w1, fr = some w1 ∧ w1.1 = .inl none ∧ K w1.2.1 w1.2.2 = some w := by
  unfold zdV at h
  cases hfr : fr with
  | none => rw [hfr] at h; cases h
  | some w1 =>
    rw [hfr] at h
    simp only [Option.bind_some] at h
    split at h
    · rename_i e
      exact ⟨w1, rfl, e, h⟩
    · cases h
theorem z_done (C : zC x cc own nm nL F L ret) (M : zM x MC MS) {mc1 ms1 : Nat} {v : Option Value} (hv : w1.1 = .inl v) (hrun : zRun x nL cells slots mc1 ms1 w1 V n pc lv st0 rest) (kk : zZ x nL (cells + mc1) (slots + ms1) w w1.2.1 w1.2.2 (pc + 3) lv (v.toList ++ rest)) : zZ x nL cells slots w V n pc lv st0 := by
  refine z_core C M hrun (fun v' hv' => ?_) (fun E hE => ?_)
  · rw [hv] at hv'; cases hv'; exact kk
  · rw [hv] at hE; cases hE
theorem z_aPI (C : zC x cc own nm nL F L ret) (M : zM x MC MS) {xn y1 y2 : MethodName} {b1 b2 : ByteArray} {x1 x2 k idx F1 F2 L1 L2 N1 N2 : Nat} {rt : Option FieldType} {C1 C2 owner : String} {T1 T2 : u_T} {r : Option Nat} (hr : cells ≤ MC ∧ slots ≤ MS) (As : List Value) (hw1 : zCA own idx C1 owner xn y1 b1 x1 rt k) (hw2 : zCA own idx C2 owner xn y2 b2 x2 rt k) (hc1 : zcl[1]? = some (C1, T1, N1)) (hc2 : zcl[2]? = some (C2, T2, N2)) (hF1 : F1 + 1 ≤ F) (hL1 : 8 + (x1 + 11) + L1 ≤ L) (hF2 : F2 + 1 ≤ F) (hL2 : 8 + (x2 + 11) + L2 ≤ L) (hk : As.length = k) (hst : st0 = As.reverse ++ va_rf r :: rest) (hrm : (rest.map fun v => v.category).sum ≤ 8) (d : decode cc pc = .ok (.invokevirtual idx, 3)) (f1 f2 : Nat → Option zR) {K : Int32 → zV → Nat → Option zR} (h : ((z_obj V r [1, 2]).bind fun o => zdI (if o.2.1 = 1 then f1 o.1 else f2 o.1) K) = some w) (hM1 : ∀ b w1, f1 b = some w1 → ∀ (l : Launch) (D : va_G) (dA : Nat → ClassId), l.stackTraces = false → z_Met l y1 b1 x1 rt F1 L1 (zc w1) (zs w1) (.ref b :: As) D dA V n w1) (hM2 : ∀ b w1, f2 b = some w1 → ∀ (l : Launch) (D : va_G) (dA : Nat → ClassId), l.stackTraces = false → z_Met l y2 b2 x2 rt F2 L2 (zc w1) (zs w1) (.ref b :: As) D dA V n w1) (kk : ∀ i V' n', K i V' n' = some w → zZ x nL cells slots w V' n' (pc + 3) lv (.int i :: rest)) : zZ x nL cells slots w V n pc lv st0 := by
  cases ho : z_obj V r [1, 2] with
  | none => rw [ho] at h; cases h
  | some o =>
    rw [ho] at h
    simp only [Option.bind_some] at h
    obtain ⟨rfl, g2, g3⟩ := z_obj_some ho
    obtain ⟨b, cj, fs⟩ := o
    dsimp only at g2 g3 hst h ⊢
    obtain ⟨w1, i, e1, e2, e3⟩ := zd_I h
    have z1 : zc w1 = 0 := by unfold zc; rw [e2]
    have z2 : zs w1 = 0 := by unfold zs; rw [e2]
    have k8 := kk i _ _ e3
    rcases (show cj = 1 ∨ cj = 2 by simpa using g3) with rfl | rfl
    · rw [if_pos rfl] at e1
      refine z_done C M e2 (z_runA C M hw1 g2 hc1 (hM1 b w1 e1) e2 hF1 hL1 hk hst hrm d (by rw [z1]; exact hr.1) (by rw [z2]; exact hr.2)) ?_
      rw [z1, z2]; exact k8
    · rw [if_neg (by decide)] at e1
      refine z_done C M e2 (z_runA C M hw2 g2 hc2 (hM2 b w1 e1) e2 hF2 hL2 hk hst hrm d (by rw [z1]; exact hr.1) (by rw [z2]; exact hr.2)) ?_
      rw [z1, z2]; exact k8
theorem z_aPL (C : zC x cc own nm nL F L ret) (M : zM x MC MS) {xn y1 y2 : MethodName} {b1 b2 : ByteArray} {x1 x2 k idx F1 F2 L1 L2 N1 N2 : Nat} {rt : Option FieldType} {C1 C2 owner : String} {T1 T2 : u_T} {r : Option Nat} (hr : cells ≤ MC ∧ slots ≤ MS) (As : List Value) (hw1 : zCA own idx C1 owner xn y1 b1 x1 rt k) (hw2 : zCA own idx C2 owner xn y2 b2 x2 rt k) (hc1 : zcl[1]? = some (C1, T1, N1)) (hc2 : zcl[2]? = some (C2, T2, N2)) (hF1 : F1 + 1 ≤ F) (hL1 : 8 + (x1 + 11) + L1 ≤ L) (hF2 : F2 + 1 ≤ F) (hL2 : 8 + (x2 + 11) + L2 ≤ L) (hk : As.length = k) (hst : st0 = As.reverse ++ va_rf r :: rest) (hrm : (rest.map fun v => v.category).sum ≤ 8) (d : decode cc pc = .ok (.invokevirtual idx, 3)) (f1 f2 : Nat → Option zR) {K : Int64 → zV → Nat → Option zR} (h : ((z_obj V r [1, 2]).bind fun o => zdL (if o.2.1 = 1 then f1 o.1 else f2 o.1) K) = some w) (hM1 : ∀ b w1, f1 b = some w1 → ∀ (l : Launch) (D : va_G) (dA : Nat → ClassId), l.stackTraces = false → z_Met l y1 b1 x1 rt F1 L1 (zc w1) (zs w1) (.ref b :: As) D dA V n w1) (hM2 : ∀ b w1, f2 b = some w1 → ∀ (l : Launch) (D : va_G) (dA : Nat → ClassId), l.stackTraces = false → z_Met l y2 b2 x2 rt F2 L2 (zc w1) (zs w1) (.ref b :: As) D dA V n w1) (kk : ∀ i V' n', K i V' n' = some w → zZ x nL cells slots w V' n' (pc + 3) lv (.long i :: rest)) : zZ x nL cells slots w V n pc lv st0 := by
  cases ho : z_obj V r [1, 2] with
  | none => rw [ho] at h; cases h
  | some o =>
    rw [ho] at h
    simp only [Option.bind_some] at h
    obtain ⟨rfl, g2, g3⟩ := z_obj_some ho
    obtain ⟨b, cj, fs⟩ := o
    dsimp only at g2 g3 hst h ⊢
    obtain ⟨w1, i, e1, e2, e3⟩ := zd_L h
    have z1 : zc w1 = 0 := by unfold zc; rw [e2]
    have z2 : zs w1 = 0 := by unfold zs; rw [e2]
    have k8 := kk i _ _ e3
    rcases (show cj = 1 ∨ cj = 2 by simpa using g3) with rfl | rfl
    · rw [if_pos rfl] at e1
      refine z_done C M e2 (z_runA C M hw1 g2 hc1 (hM1 b w1 e1) e2 hF1 hL1 hk hst hrm d (by rw [z1]; exact hr.1) (by rw [z2]; exact hr.2)) ?_
      rw [z1, z2]; exact k8
    · rw [if_neg (by decide)] at e1
      refine z_done C M e2 (z_runA C M hw2 g2 hc2 (hM2 b w1 e1) e2 hF2 hL2 hk hst hrm d (by rw [z1]; exact hr.1) (by rw [z2]; exact hr.2)) ?_
      rw [z1, z2]; exact k8
theorem z_aPV (C : zC x cc own nm nL F L ret) (M : zM x MC MS) {xn y1 y2 : MethodName} {b1 b2 : ByteArray} {x1 x2 k idx F1 F2 L1 L2 N1 N2 : Nat} {rt : Option FieldType} {C1 C2 owner : String} {T1 T2 : u_T} {r : Option Nat} (hr : cells ≤ MC ∧ slots ≤ MS) (As : List Value) (hw1 : zCA own idx C1 owner xn y1 b1 x1 rt k) (hw2 : zCA own idx C2 owner xn y2 b2 x2 rt k) (hc1 : zcl[1]? = some (C1, T1, N1)) (hc2 : zcl[2]? = some (C2, T2, N2)) (hF1 : F1 + 1 ≤ F) (hL1 : 8 + (x1 + 11) + L1 ≤ L) (hF2 : F2 + 1 ≤ F) (hL2 : 8 + (x2 + 11) + L2 ≤ L) (hk : As.length = k) (hst : st0 = As.reverse ++ va_rf r :: rest) (hrm : (rest.map fun v => v.category).sum ≤ 8) (d : decode cc pc = .ok (.invokevirtual idx, 3)) (f1 f2 : Nat → Option zR) {K : zV → Nat → Option zR} (h : ((z_obj V r [1, 2]).bind fun o => zdV (if o.2.1 = 1 then f1 o.1 else f2 o.1) K) = some w) (hM1 : ∀ b w1, f1 b = some w1 → ∀ (l : Launch) (D : va_G) (dA : Nat → ClassId), l.stackTraces = false → z_Met l y1 b1 x1 rt F1 L1 (zc w1) (zs w1) (.ref b :: As) D dA V n w1) (hM2 : ∀ b w1, f2 b = some w1 → ∀ (l : Launch) (D : va_G) (dA : Nat → ClassId), l.stackTraces = false → z_Met l y2 b2 x2 rt F2 L2 (zc w1) (zs w1) (.ref b :: As) D dA V n w1) (kk : ∀ V' n', K V' n' = some w → zZ x nL cells slots w V' n' (pc + 3) lv rest) : zZ x nL cells slots w V n pc lv st0 := by
  cases ho : z_obj V r [1, 2] with
  | none => rw [ho] at h; cases h
  | some o =>
    rw [ho] at h
    simp only [Option.bind_some] at h
    obtain ⟨rfl, g2, g3⟩ := z_obj_some ho
    obtain ⟨b, cj, fs⟩ := o
    dsimp only at g2 g3 hst h ⊢
    obtain ⟨w1, e1, e2, e3⟩ := zd_V h
    have z1 : zc w1 = 0 := by unfold zc; rw [e2]
    have z2 : zs w1 = 0 := by unfold zs; rw [e2]
    have k8 := kk _ _ e3
    rcases (show cj = 1 ∨ cj = 2 by simpa using g3) with rfl | rfl
    · rw [if_pos rfl] at e1
      refine z_done C M e2 (z_runA C M hw1 g2 hc1 (hM1 b w1 e1) e2 hF1 hL1 hk hst hrm d (by rw [z1]; exact hr.1) (by rw [z2]; exact hr.2)) ?_
      rw [z1, z2]; exact k8
    · rw [if_neg (by decide)] at e1
      refine z_done C M e2 (z_runA C M hw2 g2 hc2 (hM2 b w1 e1) e2 hF2 hL2 hk hst hrm d (by rw [z1]; exact hr.1) (by rw [z2]; exact hr.2)) ?_
      rw [z1, z2]; exact k8
theorem z_iS (C : zC x cc own nm nL F L ret) (M : zM x MC MS) {y : MethodName} {bytes : ByteArray} {maxL k idx F1 L1 b mc1 ms1 : Nat} (h1 : cells + mc1 ≤ MC) (h2 : slots + ms1 ≤ MS) (As : List Value) (hw : zCI own idx y bytes maxL k) (hF : F1 + 1 ≤ F) (hL : 8 + (maxL + 11) + L1 ≤ L) (hk : As.length = k) (hst : st0 = As.reverse ++ .ref b :: rest) (hrm : (rest.map fun v => v.category).sum ≤ 8) (d : decode cc pc = .ok (.invokespecial idx, 3)) {fr : Option zR} {K : zV → Nat → Option zR} (h : zdV fr K = some w) (hM : ∀ w1, fr = some w1 → ∀ (l : Launch) (D : va_G) (dA : Nat → ClassId), l.stackTraces = false → z_Met l y bytes maxL none F1 L1 mc1 ms1 (.ref b :: As) D dA V n w1) (kk : ∀ V' n', K V' n' = some w → zZ x nL (cells + mc1) (slots + ms1) w V' n' (pc + 3) lv rest) : zZ x nL cells slots w V n pc lv st0 := by
  obtain ⟨w1, e1, e2, e3⟩ := zd_V h
  exact z_done C M e2 (z_runI C M hw (hM w1 e1) e2 hF hL hk hst hrm d h1 h2) (kk _ _ e3)
theorem z_nS (C : zC x cc "BarrierMarks" nm nL F L ret) (M : zM x MC MS)  {bytes : ByteArray} {maxL k F1 L1 b mc1 ms1 : Nat} (h1 : cells + mc1 ≤ MC) (h2 : slots + ms1 ≤ MS) (As : List Value) (hw : zCN ⟨"BarrierMarks$AckRow", "<init>", "()V"⟩ bytes maxL k) (hF : F1 + 1 ≤ F) (hL : 8 + (maxL + 11) + L1 ≤ L) (hk : As.length = k) (hst : st0 = As.reverse ++ .ref b :: rest) (hrm : (rest.map fun v => v.category).sum ≤ 8) (d : decode cc pc = .ok (.invokespecial 23, 3)) {fr : Option zR} {K : zV → Nat → Option zR} (h : zdV fr K = some w) (hM : ∀ w1, fr = some w1 → ∀ (l : Launch) (D : va_G) (dA : Nat → ClassId), l.stackTraces = false → z_Met l ⟨"BarrierMarks$AckRow", "<init>", "()V"⟩ bytes maxL none F1 L1 mc1 ms1 (.ref b :: As) D dA V n w1) (kk : ∀ V' n', K V' n' = some w → zZ x nL (cells + mc1) (slots + ms1) w V' n' (pc + 3) lv rest) : zZ x nL cells slots w V n pc lv st0 := by
  obtain ⟨w1, e1, e2, e3⟩ := zd_V h
  exact z_done C M e2 (z_runN C M hw (hM w1 e1) e2 hF hL hk hst hrm d h1 h2) (kk _ _ e3)
end ZD
end
section
/-! putfield by types; making, with names for what is new -/
def znw (V : zV) (n : Nat) (e : zE) (K : Nat → zV → Nat → Option zR) : Option zR := K n (z_up V n e) (n + 1)
def znwa (V : zV) (n t B : Nat) (len : Int32) (u : (Nat → Int32) ⊕ (Nat → Int64) ⊕ (Nat → UInt32) ⊕ (Nat → UInt64) ⊕ (Nat → Option Nat)) (K : Nat → zV → Nat → Option zR) : Option zR := if len < 0 ∨ B < len.toNatClampNeg then none else K n (z_up V n (.inl (t, len.toNatClampNeg, u))) (n + 1)
/-- the fuel of a loop that makes nothing -/
def zF : Nat := 1000000
section ZP
variable {x : zX} {cc : ByteArray} {own nm : String} {nL F L MC MS : Nat} {ret : Option FieldType} {cells slots : Nat} {w : zR} {V : zV} {n pc : Nat} {lv lv' : List (Nat × Value)} {st : List Value}
theorem z_putI (C : zC x cc own nm nL F L ret) {r : Option Nat} {cs : List Nat} {k idx : Nat} {v : Int32} {fin : Bool} (hf : ∀ ci ∈ cs, z_fld own idx ci k ∧ z_wrt ci k fin own .int) (hfin : fin = true → nm = "<init>") (d : decode cc pc = .ok (.putfield idx, 3)) {K : zV → Option zR} (h : (zpI V r cs k v).bind K = some w) (k9 : ∀ V', K V' = some w → zZ x nL cells slots w V' n (pc + 3) lv st) : zZ x nL cells slots w V n pc lv (.int v :: va_rf r :: st) := z_putV C hf hfin rfl rfl d h k9
theorem z_putL (C : zC x cc own nm nL F L ret) {r : Option Nat} {cs : List Nat} {k idx : Nat} {v : Int64} {fin : Bool} (hf : ∀ ci ∈ cs, z_fld own idx ci k ∧ z_wrt ci k fin own .long) (hfin : fin = true → nm = "<init>") (d : decode cc pc = .ok (.putfield idx, 3)) {K : zV → Option zR} (h : (zpL V r cs k v).bind K = some w) (k9 : ∀ V', K V' = some w → zZ x nL cells slots w V' n (pc + 3) lv st) : zZ x nL cells slots w V n pc lv (.long v :: va_rf r :: st) := z_putV C hf hfin rfl rfl d h k9
theorem z_putZ (C : zC x cc own nm nL F L ret) {r : Option Nat} {cs : List Nat} {k idx : Nat} {v : Int32} {fin : Bool} (hf : ∀ ci ∈ cs, z_fld own idx ci k ∧ z_wrt ci k fin own .boolean) (hfin : fin = true → nm = "<init>") (d : decode cc pc = .ok (.putfield idx, 3)) {K : zV → Option zR} (h : (zpZ V r cs k v).bind K = some w) (k9 : ∀ V', K V' = some w → zZ x nL cells slots w V' n (pc + 3) lv st) : zZ x nL cells slots w V n pc lv (.int v :: va_rf r :: st) := by
  unfold zpZ at h
  by_cases hv : v = 0 ∨ v = 1
  · rw [if_pos hv] at h
    exact z_putV C hf hfin (by rcases hv with rfl | rfl <;> rfl) (by rcases hv with rfl | rfl <;> rfl) d h k9
  · rw [if_neg hv] at h; cases h
theorem z_putR (C : zC x cc own nm nL F L ret) {r : Option Nat} {cs : List Nat} {k idx : Nat} {v : Option Nat} {ty : FieldType} {fin : Bool} (hf : ∀ ci ∈ cs, z_fld own idx ci k ∧ z_wrt ci k fin own ty) (hty : ∀ v : Option Nat, narrow ty (va_rf v) = va_rf v ∧ fits ty (va_rf v) = true) (hfin : fin = true → nm = "<init>") (d : decode cc pc = .ok (.putfield idx, 3)) {K : zV → Option zR} (h : (zpR V r cs k v).bind K = some w) (k9 : ∀ V', K V' = some w → zZ x nL cells slots w V' n (pc + 3) lv st) : zZ x nL cells slots w V n pc lv (va_rf v :: va_rf r :: st) := z_putV C hf hfin (hty v).1 (hty v).2 d h k9
theorem zfitO {E : String} (v : Option Nat) : narrow (.object E) (va_rf v) = va_rf v ∧ fits (.object E) (va_rf v) = true := by cases v <;> exact ⟨rfl, rfl⟩
theorem zfitA {t : FieldType} (v : Option Nat) : narrow (.array t) (va_rf v) = va_rf v ∧ fits (.array t) (va_rf v) = true := by cases v <;> exact ⟨rfl, rfl⟩
theorem z_newK (C : zC x cc own nm nL F L ret) (M : zM x MC MS) {ci idx N : Nat} {C1 : String} {T : u_T} {ty : Nat → FieldType} {fs : List Value} (hc : zcl[ci]? = some (C1, T, N)) (hin : ∀ w ∈ u_ws C1 T N, w ∈ zTs) (hty : ∀ k, k < N → parseFieldDescriptor (T k).2.2.1 = some (ty k)) (hfs : ∀ j, j < N → defaultValue (ty j) = vp_V fs j) (h1 : Cond.classLink own idx C1 ∈ zTs) (h2 : Cond.instantiable C1 N ∈ zTs) (h3 : Cond.initialized C1 ∈ zTs) (hcells : cells + 1 ≤ MC) (hslots : slots + N ≤ MS) (d : decode cc pc = .ok (.new idx, 3)) {K : Nat → zV → Nat → Option zR} (h : znw V n (.inr (ci, fs)) K = some w) (k9 : ∀ (a : Nat) (V' : zV) (n' : Nat), K a V' n' = some w → a = n → V' = z_up V n (.inr (ci, fs)) → n' = n + 1 → zZ x nL (cells + 1) (slots + N) w V' n' (pc + 3) lv (va_rf (some a) :: st)) : zZ x nL cells slots w V n pc lv st := z_new C M hc hin hty hfs h1 h2 h3 hcells hslots d (k9 _ _ _ h rfl rfl rfl)
theorem z_newaK (C : zC x cc own nm nL F L ret) (M : zM x MC MS) {t B : Nat} {at9 : ArrayType} {ty : FieldType} {u : (Nat → Int32) ⊕ (Nat → Int64) ⊕ (Nat → UInt32) ⊕ (Nat → UInt64) ⊕ (Nat → Option Nat)} {len : Int32} (ht : ztl[t]? = some ty) (hty : newarray.typeOf at9 = ty) (hcl : Cond.arrayClass ty ∈ zTs) (hra : ∀ (s : State) (cA : ClassId), va_RA s cA ty = (s.vm.findClass ("[" ++ ty.toString) = some cA)) (hu : ∀ (cA : ClassId) (N : Nat), vp_cell cA (N, u) = arrV cA N (fun _ => defaultValue ty)) (hB : B * componentBytes ty ≤ 536870912) (hcells : cells + 1 ≤ MC) (hslots : slots + B ≤ MS) (d : decode cc pc = .ok (.newarray at9, 2)) {K : Nat → zV → Nat → Option zR} (h : znwa V n t B len u K = some w) (k9 : ∀ (a : Nat) (V' : zV) (n' : Nat), K a V' n' = some w → zZ x nL (cells + 1) (slots + B) w V' n' (pc + 2) lv (va_rf (some a) :: st)) : zZ x nL cells slots w V n pc lv (.int len :: st) := z_newa C M ht hty hcl hra hu hB hcells hslots d (K := fun N => K n (z_up V n (.inl (t, N, u))) (n + 1)) h (fun N _ _ _ hK => k9 _ _ _ hK)
theorem z_anewK (C : zC x cc own nm nL F L ret) (M : zM x MC MS) {t B idx : Nat} {E : String} {len : Int32} (ht : ztl[t]? = some (.object E)) (h1 : Cond.classLink own idx E ∈ zTs) (h2 : E ∈ zao) (hB : B * 4 ≤ 536870912) (hcells : cells + 1 ≤ MC) (hslots : slots + B ≤ MS) (d : decode cc pc = .ok (.anewarray idx, 3)) {K : Nat → zV → Nat → Option zR} (h : znwa V n t B len (.inr (.inr (.inr (.inr (fun _ => none))))) K = some w) (k9 : ∀ (a : Nat) (V' : zV) (n' : Nat), K a V' n' = some w → zZ x nL (cells + 1) (slots + B) w V' n' (pc + 3) lv (va_rf (some a) :: st)) : zZ x nL cells slots w V n pc lv (.int len :: st) := z_anew C M ht h1 h2 hB hcells hslots d (K := fun N => K n (z_up V n (.inl (t, N, .inr (.inr (.inr (.inr (fun _ => none))))))) (n + 1)) h (fun N _ _ _ hK => k9 _ _ _ hK)
end ZP
theorem zrfcat (r : Option Nat) : (va_rf r).category = 1 := by cases r <;> rfl
theorem z_iinc_w {x : zX} {cc : ByteArray} {own nm : String} {nL F L : Nat} {ret : Option FieldType} {cells slots : Nat} {w : zR} {V : zV} {n pc : Nat} {lv lv' : List (Nat × Value)} {st : List Value} (C : zC x cc own nm nL F L ret) {i : Nat} {j : Int} {a b : Int32} (q : Nat) (d : decode cc pc = .ok (.iinc i j, 6)) (hq : lv[q]? = some (i, .int a)) (hb : a + Int32.ofInt j = b) (hn : i < nL) (hl' : (i, Value.int b) :: lv.filter (fun q => !(q.1 == i) && !(q.1 + 1 == i && q.2.category == 2)) = lv') (k9 : zZ x nL cells slots w V n (pc + 6) lv' st) : zZ x nL cells slots w V n pc lv st := by
  obtain ⟨p, l, e, R, s, m, args, below, meth, c, D, dA, V0, n0, mc, ms⟩ := x
  exact fun H locs ls h hl => lv_iincW C.1 C.2.1 d hl hq hb hn hl' (fun ls' h' => k9 H locs ls' h h')
end
section
/-! FACTS about pool entries: words of the tables -/
theorem ol_K_3 : Cond.methodLink "BarrierMarks$AckRow" 3 Lib.objectInit ∈ zTs := by decide +kernel
theorem oi_ : Cond.instanceMethod Lib.objectInit ∈ zTs := by decide +kernel
theorem oc_ : Cond.code Lib.objectInit ⟨#[0xb1]⟩ 1 none ∈ zTs := by decide +kernel
theorem na_0 : Cond.arrayClass .int ∈ zTs := by decide +kernel
theorem fl_K_9 : ∀ ci ∈ [0], z_fld "BarrierMarks$AckRow" 9 ci 0 := by
  intro ci h
  simp only [List.mem_cons, List.not_mem_nil, or_false] at h
  subst h
  exact ⟨_, _, _, "BarrierMarks$AckRow", rfl, by decide, zi0, (zm 35 zq1 (by decide +kernel) rfl), Or.inl rfl⟩
theorem pf_K_9 : ∀ ci ∈ [0], z_fld "BarrierMarks$AckRow" 9 ci 0 ∧ z_wrt ci 0 true "BarrierMarks$AckRow" (.array .int) := by
  intro ci h
  refine ⟨fl_K_9 ci h, ?_⟩
  simp only [List.mem_cons, List.not_mem_nil, or_false] at h
  subst h
  exact ⟨_, _, _, zty0, rfl, rfl, fun _ => rfl, by decide +kernel, zt0, zn0⟩
theorem fl_K_15 : ∀ ci ∈ [0], z_fld "BarrierMarks$AckRow" 15 ci 1 := by
  intro ci h
  simp only [List.mem_cons, List.not_mem_nil, or_false] at h
  subst h
  exact ⟨_, _, _, "BarrierMarks$AckRow", rfl, by decide, zi0, (zm 36 zq1 (by decide +kernel) rfl), Or.inl rfl⟩
theorem pf_K_15 : ∀ ci ∈ [0], z_fld "BarrierMarks$AckRow" 15 ci 1 ∧ z_wrt ci 1 true "BarrierMarks$AckRow" (.array .int) := by
  intro ci h
  refine ⟨fl_K_15 ci h, ?_⟩
  simp only [List.mem_cons, List.not_mem_nil, or_false] at h
  subst h
  exact ⟨_, _, _, zty0, rfl, rfl, fun _ => rfl, by decide +kernel, zt0, zn0⟩
theorem ol_T_3 : Cond.methodLink "BarrierMarks$Task" 3 Lib.objectInit ∈ zTs := by decide +kernel
theorem nl_T_9 : Cond.classLink "BarrierMarks$Task" 9 "BarrierMarks$Channel" ∈ zTs := (zm 63 zq1 (by decide +kernel) rfl)
theorem fl_T_11 : ∀ ci ∈ [4], z_fld "BarrierMarks$Task" 11 ci 1 := by
  intro ci h
  simp only [List.mem_cons, List.not_mem_nil, or_false] at h
  subst h
  exact ⟨_, _, _, "BarrierMarks$Task", rfl, by decide, zi4, (zm 69 zq1 (by decide +kernel) rfl), Or.inl rfl⟩
theorem pf_T_11 : ∀ ci ∈ [4], z_fld "BarrierMarks$Task" 11 ci 1 ∧ z_wrt ci 1 true "BarrierMarks$Task" (.array (.object "BarrierMarks$Channel")) := by
  intro ci h
  refine ⟨fl_T_11 ci h, ?_⟩
  simp only [List.mem_cons, List.not_mem_nil, or_false] at h
  subst h
  exact ⟨_, _, _, zty4, rfl, rfl, fun _ => rfl, by decide +kernel, zt4, zn4⟩
theorem nl_T_17 : Cond.classLink "BarrierMarks$Task" 17 "BarrierMarks$Line" ∈ zTs := (zm 64 zq1 (by decide +kernel) rfl)
theorem fl_T_19 : ∀ ci ∈ [4], z_fld "BarrierMarks$Task" 19 ci 2 := by
  intro ci h
  simp only [List.mem_cons, List.not_mem_nil, or_false] at h
  subst h
  exact ⟨_, _, _, "BarrierMarks$Task", rfl, by decide, zi4, (zm 71 zq1 (by decide +kernel) rfl), Or.inl rfl⟩
theorem pf_T_19 : ∀ ci ∈ [4], z_fld "BarrierMarks$Task" 19 ci 2 ∧ z_wrt ci 2 true "BarrierMarks$Task" (.array (.object "BarrierMarks$Line")) := by
  intro ci h
  refine ⟨fl_T_19 ci h, ?_⟩
  simp only [List.mem_cons, List.not_mem_nil, or_false] at h
  subst h
  exact ⟨_, _, _, zty4, rfl, rfl, fun _ => rfl, by decide +kernel, zt4, zn4⟩
theorem fl_T_23 : ∀ ci ∈ [4], z_fld "BarrierMarks$Task" 23 ci 0 := by
  intro ci h
  simp only [List.mem_cons, List.not_mem_nil, or_false] at h
  subst h
  exact ⟨_, _, _, "BarrierMarks$Task", rfl, by decide, zi4, (zm 66 zq1 (by decide +kernel) rfl), Or.inl rfl⟩
theorem pf_T_23 : ∀ ci ∈ [4], z_fld "BarrierMarks$Task" 23 ci 0 ∧ z_wrt ci 0 true "BarrierMarks$Task" .int := by
  intro ci h
  refine ⟨fl_T_23 ci h, ?_⟩
  simp only [List.mem_cons, List.not_mem_nil, or_false] at h
  subst h
  exact ⟨_, _, _, zty4, rfl, rfl, fun _ => rfl, by decide +kernel, zt4, zn4⟩
theorem tw_B_244 : ∀ w ∈ vx_atS "BarrierMarks" 244 "java/lang/IndexOutOfBoundsException" znames, w ∈ zTs ∨ w = .castable "java/lang/IndexOutOfBoundsException" "java/lang/IndexOutOfBoundsException" ∨ w ∈ zdecl.map Cond.declares := by decide +kernel
theorem tx_B_244_240 : ∀ w ∈ Cond.classLink "BarrierMarks" 240 "java/lang/IndexOutOfBoundsException" :: Cond.initialized "java/lang/IndexOutOfBoundsException" :: vx_atS "BarrierMarks" 244 "java/lang/IndexOutOfBoundsException" znames, vx_ot w = true := by decide +kernel
theorem th_B_260_240 : zThr "BarrierMarks" 240 260 244 "java/lang/IndexOutOfBoundsException" "no such task" := ⟨by decide +kernel, (zm 153 zq1 (by decide +kernel) rfl), (zm 9 zq1 (by decide +kernel) rfl), by decide +kernel, by decide +kernel, tw_B_244, tx_B_244_240⟩
theorem fl_B_39 : ∀ ci ∈ [5], z_fld "BarrierMarks" 39 ci 0 := by
  intro ci h
  simp only [List.mem_cons, List.not_mem_nil, or_false] at h
  subst h
  exact ⟨_, _, _, "BarrierMarks", rfl, by decide, zi5, (zm 104 zq1 (by decide +kernel) rfl), Or.inl rfl⟩
theorem ol_Ch_3 : Cond.methodLink "BarrierMarks$Channel" 3 Lib.objectInit ∈ zTs := by decide +kernel
theorem fl_Ch_9 : ∀ ci ∈ [1, 2], z_fld "BarrierMarks$Channel" 9 ci 2 := by
  intro ci h
  simp only [List.mem_cons, List.not_mem_nil, or_false] at h
  rcases h with rfl | rfl
  · exact ⟨_, _, _, "BarrierMarks$Channel", rfl, by decide, zi1, (zm 23 zq2 (by decide +kernel) rfl), Or.inl rfl⟩
  · exact ⟨_, _, _, "BarrierMarks$Channel", rfl, by decide, zi2, (zm 23 zq2 (by decide +kernel) rfl), Or.inl rfl⟩
theorem pf_Ch_9 : ∀ ci ∈ [1, 2], z_fld "BarrierMarks$Channel" 9 ci 2 ∧ z_wrt ci 2 false "BarrierMarks$Channel" .int := by
  intro ci h
  refine ⟨fl_Ch_9 ci h, ?_⟩
  simp only [List.mem_cons, List.not_mem_nil, or_false] at h
  rcases h with rfl | rfl
  · exact ⟨_, _, _, zty1, rfl, rfl, fun h => absurd h (by decide), by decide +kernel, zt1, zn1⟩
  · exact ⟨_, _, _, zty2, rfl, rfl, fun h => absurd h (by decide), by decide +kernel, zt2, zn2⟩
theorem fl_Ch_15 : ∀ ci ∈ [1, 2], z_fld "BarrierMarks$Channel" 15 ci 0 := by
  intro ci h
  simp only [List.mem_cons, List.not_mem_nil, or_false] at h
  rcases h with rfl | rfl
  · exact ⟨_, _, _, "BarrierMarks$Channel", rfl, by decide, zi1, (zm 19 zq2 (by decide +kernel) rfl), Or.inl rfl⟩
  · exact ⟨_, _, _, "BarrierMarks$Channel", rfl, by decide, zi2, (zm 19 zq2 (by decide +kernel) rfl), Or.inl rfl⟩
theorem pf_Ch_15 : ∀ ci ∈ [1, 2], z_fld "BarrierMarks$Channel" 15 ci 0 ∧ z_wrt ci 0 true "BarrierMarks$Channel" .int := by
  intro ci h
  refine ⟨fl_Ch_15 ci h, ?_⟩
  simp only [List.mem_cons, List.not_mem_nil, or_false] at h
  rcases h with rfl | rfl
  · exact ⟨_, _, _, zty1, rfl, rfl, fun _ => rfl, by decide +kernel, zt1, zn1⟩
  · exact ⟨_, _, _, zty2, rfl, rfl, fun _ => rfl, by decide +kernel, zt2, zn2⟩
theorem fl_Ch_18 : ∀ ci ∈ [1, 2], z_fld "BarrierMarks$Channel" 18 ci 1 := by
  intro ci h
  simp only [List.mem_cons, List.not_mem_nil, or_false] at h
  rcases h with rfl | rfl
  · exact ⟨_, _, _, "BarrierMarks$Channel", rfl, by decide, zi1, (zm 21 zq2 (by decide +kernel) rfl), Or.inl rfl⟩
  · exact ⟨_, _, _, "BarrierMarks$Channel", rfl, by decide, zi2, (zm 21 zq2 (by decide +kernel) rfl), Or.inl rfl⟩
theorem pf_Ch_18 : ∀ ci ∈ [1, 2], z_fld "BarrierMarks$Channel" 18 ci 1 ∧ z_wrt ci 1 true "BarrierMarks$Channel" .int := by
  intro ci h
  refine ⟨fl_Ch_18 ci h, ?_⟩
  simp only [List.mem_cons, List.not_mem_nil, or_false] at h
  rcases h with rfl | rfl
  · exact ⟨_, _, _, zty1, rfl, rfl, fun _ => rfl, by decide +kernel, zt1, zn1⟩
  · exact ⟨_, _, _, zty2, rfl, rfl, fun _ => rfl, by decide +kernel, zt2, zn2⟩
theorem cn_S_3 : zCI "BarrierMarks$Source" 3 ⟨"BarrierMarks$Channel", "<init>", "(II)V"⟩ prog_3_method_1_code 3 2 := ⟨(zm 2 zq2 (by decide +kernel) rfl), (zm 3 zq2 (by decide +kernel) rfl), (zm 11 zq1 (by decide +kernel) rfl), (zm 4 zq2 (by decide +kernel) rfl), rfl, by decide, by decide, by decide +kernel⟩
theorem na_1 : Cond.arrayClass .long ∈ zTs := by decide +kernel
theorem fl_S_9 : ∀ ci ∈ [1], z_fld "BarrierMarks$Source" 9 ci 4 := by
  intro ci h
  simp only [List.mem_cons, List.not_mem_nil, or_false] at h
  subst h
  exact ⟨_, _, _, "BarrierMarks$Source", rfl, by decide, zi1, (zm 6 zq2 (by decide +kernel) rfl), Or.inl rfl⟩
theorem pf_S_9 : ∀ ci ∈ [1], z_fld "BarrierMarks$Source" 9 ci 4 ∧ z_wrt ci 4 true "BarrierMarks$Source" (.array .long) := by
  intro ci h
  refine ⟨fl_S_9 ci h, ?_⟩
  simp only [List.mem_cons, List.not_mem_nil, or_false] at h
  subst h
  exact ⟨_, _, _, zty1, rfl, rfl, fun _ => rfl, by decide +kernel, zt1, zn1⟩
theorem fl_S_15 : ∀ ci ∈ [1], z_fld "BarrierMarks$Source" 15 ci 5 := by
  intro ci h
  simp only [List.mem_cons, List.not_mem_nil, or_false] at h
  subst h
  exact ⟨_, _, _, "BarrierMarks$Source", rfl, by decide, zi1, (zm 7 zq2 (by decide +kernel) rfl), Or.inl rfl⟩
theorem pf_S_15 : ∀ ci ∈ [1], z_fld "BarrierMarks$Source" 15 ci 5 ∧ z_wrt ci 5 true "BarrierMarks$Source" (.array .int) := by
  intro ci h
  refine ⟨fl_S_15 ci h, ?_⟩
  simp only [List.mem_cons, List.not_mem_nil, or_false] at h
  subst h
  exact ⟨_, _, _, zty1, rfl, rfl, fun _ => rfl, by decide +kernel, zt1, zn1⟩
theorem fl_S_19 : ∀ ci ∈ [1], z_fld "BarrierMarks$Source" 19 ci 6 := by
  intro ci h
  simp only [List.mem_cons, List.not_mem_nil, or_false] at h
  subst h
  exact ⟨_, _, _, "BarrierMarks$Source", rfl, by decide, zi1, (zm 9 zq2 (by decide +kernel) rfl), Or.inl rfl⟩
theorem pf_S_19 : ∀ ci ∈ [1], z_fld "BarrierMarks$Source" 19 ci 6 ∧ z_wrt ci 6 true "BarrierMarks$Source" (.array .long) := by
  intro ci h
  refine ⟨fl_S_19 ci h, ?_⟩
  simp only [List.mem_cons, List.not_mem_nil, or_false] at h
  subst h
  exact ⟨_, _, _, zty1, rfl, rfl, fun _ => rfl, by decide +kernel, zt1, zn1⟩
theorem fl_S_22 : ∀ ci ∈ [1], z_fld "BarrierMarks$Source" 22 ci 7 := by
  intro ci h
  simp only [List.mem_cons, List.not_mem_nil, or_false] at h
  subst h
  exact ⟨_, _, _, "BarrierMarks$Source", rfl, by decide, zi1, (zm 11 zq2 (by decide +kernel) rfl), Or.inl rfl⟩
theorem pf_S_22 : ∀ ci ∈ [1], z_fld "BarrierMarks$Source" 22 ci 7 ∧ z_wrt ci 7 true "BarrierMarks$Source" (.array .int) := by
  intro ci h
  refine ⟨fl_S_22 ci h, ?_⟩
  simp only [List.mem_cons, List.not_mem_nil, or_false] at h
  subst h
  exact ⟨_, _, _, zty1, rfl, rfl, fun _ => rfl, by decide +kernel, zt1, zn1⟩
theorem fl_T_27 : ∀ ci ∈ [4], z_fld "BarrierMarks$Task" 27 ci 3 := by
  intro ci h
  simp only [List.mem_cons, List.not_mem_nil, or_false] at h
  subst h
  exact ⟨_, _, _, "BarrierMarks$Task", rfl, by decide, zi4, (zm 72 zq1 (by decide +kernel) rfl), Or.inl rfl⟩
theorem ae_4 : ∀ ci ∈ [1, 2], ∃ q, zcl[ci]? = some q ∧ (q.1 = "BarrierMarks$Channel" ∨ (q.1, "BarrierMarks$Channel") ∈ zcast) := by
  intro ci h
  simp only [List.mem_cons, List.not_mem_nil, or_false] at h
  rcases h with rfl | rfl
  · exact ⟨_, rfl, Or.inr (by decide +kernel)⟩
  · exact ⟨_, rfl, Or.inr (by decide +kernel)⟩
theorem pf_T_27 : ∀ ci ∈ [4], z_fld "BarrierMarks$Task" 27 ci 3 ∧ z_wrt ci 3 false "BarrierMarks$Task" .int := by
  intro ci h
  refine ⟨fl_T_27 ci h, ?_⟩
  simp only [List.mem_cons, List.not_mem_nil, or_false] at h
  subst h
  exact ⟨_, _, _, zty4, rfl, rfl, fun h => absurd h (by decide), by decide +kernel, zt4, zn4⟩
theorem fl_B_62 : ∀ ci ∈ [5], z_fld "BarrierMarks" 62 ci 6 := by
  intro ci h
  simp only [List.mem_cons, List.not_mem_nil, or_false] at h
  subst h
  exact ⟨_, _, _, "BarrierMarks", rfl, by decide, zi5, (zm 110 zq1 (by decide +kernel) rfl), Or.inl rfl⟩
theorem fl_B_11 : ∀ ci ∈ [5], z_fld "BarrierMarks" 11 ci 1 := by
  intro ci h
  simp only [List.mem_cons, List.not_mem_nil, or_false] at h
  subst h
  exact ⟨_, _, _, "BarrierMarks", rfl, by decide, zi5, (zm 105 zq1 (by decide +kernel) rfl), Or.inl rfl⟩
theorem pf_B_62 : ∀ ci ∈ [5], z_fld "BarrierMarks" 62 ci 6 ∧ z_wrt ci 6 false "BarrierMarks" .int := by
  intro ci h
  refine ⟨fl_B_62 ci h, ?_⟩
  simp only [List.mem_cons, List.not_mem_nil, or_false] at h
  subst h
  exact ⟨_, _, _, zty5, rfl, rfl, fun h => absurd h (by decide), by decide +kernel, zt5, zn5⟩
theorem cv_B_275 : zCV "BarrierMarks" 275 "BarrierMarks$Task" ⟨"BarrierMarks$Task", "addInto", "(LBarrierMarks$Channel;)V"⟩ prog_7_method_2_code 2 none 1 := ⟨⟨(zm 61 zq2 (by decide +kernel) rfl), (zm 62 zq2 (by decide +kernel) rfl), (zm 63 zq2 (by decide +kernel) rfl), (zm 4 zq1 (by decide +kernel) rfl), (zm 64 zq2 (by decide +kernel) rfl)⟩, rfl, by decide, by decide, by decide +kernel⟩
theorem fl_B_198 : ∀ ci ∈ [1, 2], z_fld "BarrierMarks" 198 ci 0 := by
  intro ci h
  simp only [List.mem_cons, List.not_mem_nil, or_false] at h
  rcases h with rfl | rfl
  · exact ⟨_, _, _, "BarrierMarks$Channel", rfl, by decide, zi1, (zm 20 zq2 (by decide +kernel) rfl), Or.inl rfl⟩
  · exact ⟨_, _, _, "BarrierMarks$Channel", rfl, by decide, zi2, (zm 20 zq2 (by decide +kernel) rfl), Or.inl rfl⟩
theorem fl_B_205 : ∀ ci ∈ [1, 2], z_fld "BarrierMarks" 205 ci 1 := by
  intro ci h
  simp only [List.mem_cons, List.not_mem_nil, or_false] at h
  rcases h with rfl | rfl
  · exact ⟨_, _, _, "BarrierMarks$Channel", rfl, by decide, zi1, (zm 22 zq2 (by decide +kernel) rfl), Or.inl rfl⟩
  · exact ⟨_, _, _, "BarrierMarks$Channel", rfl, by decide, zi2, (zm 22 zq2 (by decide +kernel) rfl), Or.inl rfl⟩
theorem cn_L_3 : zCI "BarrierMarks$Line" 3 ⟨"BarrierMarks$Channel", "<init>", "(II)V"⟩ prog_3_method_1_code 3 2 := ⟨(zm 90 zq2 (by decide +kernel) rfl), (zm 3 zq2 (by decide +kernel) rfl), (zm 11 zq1 (by decide +kernel) rfl), (zm 4 zq2 (by decide +kernel) rfl), rfl, by decide, by decide, by decide +kernel⟩
theorem fl_L_9 : ∀ ci ∈ [2], z_fld "BarrierMarks$Line" 9 ci 4 := by
  intro ci h
  simp only [List.mem_cons, List.not_mem_nil, or_false] at h
  subst h
  exact ⟨_, _, _, "BarrierMarks$Line", rfl, by decide, zi2, (zm 91 zq2 (by decide +kernel) rfl), Or.inl rfl⟩
theorem pf_L_9 : ∀ ci ∈ [2], z_fld "BarrierMarks$Line" 9 ci 4 ∧ z_wrt ci 4 true "BarrierMarks$Line" (.array .int) := by
  intro ci h
  refine ⟨fl_L_9 ci h, ?_⟩
  simp only [List.mem_cons, List.not_mem_nil, or_false] at h
  subst h
  exact ⟨_, _, _, zty2, rfl, rfl, fun _ => rfl, by decide +kernel, zt2, zn2⟩
theorem fl_L_15 : ∀ ci ∈ [2], z_fld "BarrierMarks$Line" 15 ci 5 := by
  intro ci h
  simp only [List.mem_cons, List.not_mem_nil, or_false] at h
  subst h
  exact ⟨_, _, _, "BarrierMarks$Line", rfl, by decide, zi2, (zm 93 zq2 (by decide +kernel) rfl), Or.inl rfl⟩
theorem pf_L_15 : ∀ ci ∈ [2], z_fld "BarrierMarks$Line" 15 ci 5 ∧ z_wrt ci 5 true "BarrierMarks$Line" (.array .long) := by
  intro ci h
  refine ⟨fl_L_15 ci h, ?_⟩
  simp only [List.mem_cons, List.not_mem_nil, or_false] at h
  subst h
  exact ⟨_, _, _, zty2, rfl, rfl, fun _ => rfl, by decide +kernel, zt2, zn2⟩
theorem fl_T_30 : ∀ ci ∈ [4], z_fld "BarrierMarks$Task" 30 ci 4 := by
  intro ci h
  simp only [List.mem_cons, List.not_mem_nil, or_false] at h
  subst h
  exact ⟨_, _, _, "BarrierMarks$Task", rfl, by decide, zi4, (zm 74 zq1 (by decide +kernel) rfl), Or.inl rfl⟩
theorem ae_5 : ∀ ci ∈ [2], ∃ q, zcl[ci]? = some q ∧ (q.1 = "BarrierMarks$Line" ∨ (q.1, "BarrierMarks$Line") ∈ zcast) := by
  intro ci h
  simp only [List.mem_cons, List.not_mem_nil, or_false] at h
  subst h
  exact ⟨_, rfl, Or.inl rfl⟩
theorem pf_T_30 : ∀ ci ∈ [4], z_fld "BarrierMarks$Task" 30 ci 4 ∧ z_wrt ci 4 false "BarrierMarks$Task" .int := by
  intro ci h
  refine ⟨fl_T_30 ci h, ?_⟩
  simp only [List.mem_cons, List.not_mem_nil, or_false] at h
  subst h
  exact ⟨_, _, _, zty4, rfl, rfl, fun h => absurd h (by decide), by decide +kernel, zt4, zn4⟩
theorem fl_B_58 : ∀ ci ∈ [5], z_fld "BarrierMarks" 58 ci 9 := by
  intro ci h
  simp only [List.mem_cons, List.not_mem_nil, or_false] at h
  subst h
  exact ⟨_, _, _, "BarrierMarks", rfl, by decide, zi5, (zm 113 zq1 (by decide +kernel) rfl), Or.inl rfl⟩
theorem tw_B_70 : ∀ w ∈ vx_atS "BarrierMarks" 70 "java/lang/IllegalStateException" znames, w ∈ zTs ∨ w = .castable "java/lang/IllegalStateException" "java/lang/IllegalStateException" ∨ w ∈ zdecl.map Cond.declares := by decide +kernel
theorem tx_B_70_66 : ∀ w ∈ Cond.classLink "BarrierMarks" 66 "java/lang/IllegalStateException" :: Cond.initialized "java/lang/IllegalStateException" :: vx_atS "BarrierMarks" 70 "java/lang/IllegalStateException" znames, vx_ot w = true := by decide +kernel
theorem th_B_68_66 : zThr "BarrierMarks" 66 68 70 "java/lang/IllegalStateException" "no more channels can be made" := ⟨by decide +kernel, (zm 221 zq1 (by decide +kernel) rfl), (zm 10 zq1 (by decide +kernel) rfl), by decide +kernel, by decide +kernel, tw_B_70, tx_B_70_66⟩
theorem fl_B_80 : ∀ ci ∈ [4], z_fld "BarrierMarks" 80 ci 3 := by
  intro ci h
  simp only [List.mem_cons, List.not_mem_nil, or_false] at h
  subst h
  exact ⟨_, _, _, "BarrierMarks$Task", rfl, by decide, zi4, (zm 73 zq1 (by decide +kernel) rfl), Or.inl rfl⟩
theorem tw_B_91 : ∀ w ∈ vx_atS "BarrierMarks" 91 "java/lang/IllegalArgumentException" znames, w ∈ zTs ∨ w = .castable "java/lang/IllegalArgumentException" "java/lang/IllegalArgumentException" ∨ w ∈ zdecl.map Cond.declares := by decide +kernel
theorem tx_B_91_87 : ∀ w ∈ Cond.classLink "BarrierMarks" 87 "java/lang/IllegalArgumentException" :: Cond.initialized "java/lang/IllegalArgumentException" :: vx_atS "BarrierMarks" 91 "java/lang/IllegalArgumentException" znames, vx_ot w = true := by decide +kernel
theorem th_B_89_87 : zThr "BarrierMarks" 87 89 91 "java/lang/IllegalArgumentException" "a ring, or a task without a channel into it" := ⟨by decide +kernel, (zm 69 zq2 (by decide +kernel) rfl), (zm 13 zq1 (by decide +kernel) rfl), by decide +kernel, by decide +kernel, tw_B_91, tx_B_91_87⟩
theorem cv_B_83 : zCV "BarrierMarks" 83 "BarrierMarks" ⟨"BarrierMarks", "leadsOnTo", "(II)Z"⟩ prog_1_method_34_code 7 (some .boolean) 2 := ⟨⟨(zm 65 zq2 (by decide +kernel) rfl), (zm 67 zq2 (by decide +kernel) rfl), (zmp (by decide +kernel) rfl), (zm 1 zq1 (by decide +kernel) rfl), (zm 68 zq2 (by decide +kernel) rfl)⟩, rfl, by decide, by decide, by decide +kernel⟩
theorem nl_B_92 : Cond.classLink "BarrierMarks" 92 "BarrierMarks$Line" ∈ zTs := (zm 85 zq2 (by decide +kernel) rfl)
theorem ni_2 : Cond.instantiable "BarrierMarks$Line" 7 ∈ zTs := (zm 86 zq2 (by decide +kernel) rfl)
theorem nz_2 : Cond.initialized "BarrierMarks$Line" ∈ zTs := (zm 14 zq1 (by decide +kernel) rfl)
theorem cn_B_94 : zCI "BarrierMarks" 94 ⟨"BarrierMarks$Line", "<init>", "(II)V"⟩ prog_4_method_1_code 3 2 := ⟨(zm 87 zq2 (by decide +kernel) rfl), (zm 88 zq2 (by decide +kernel) rfl), (zm 14 zq1 (by decide +kernel) rfl), (zm 89 zq2 (by decide +kernel) rfl), rfl, by decide, by decide, by decide +kernel⟩
theorem cv_B_97 : zCV "BarrierMarks" 97 "BarrierMarks$Task" ⟨"BarrierMarks$Task", "addOut", "(LBarrierMarks$Line;)V"⟩ prog_7_method_3_code 2 none 1 := ⟨⟨(zm 109 zq2 (by decide +kernel) rfl), (zm 110 zq2 (by decide +kernel) rfl), (zm 111 zq2 (by decide +kernel) rfl), (zm 4 zq1 (by decide +kernel) rfl), (zm 112 zq2 (by decide +kernel) rfl)⟩, rfl, by decide, by decide, by decide +kernel⟩
theorem cv_B_76 : zCV "BarrierMarks" 76 "BarrierMarks" ⟨"BarrierMarks", "addChannel", "(LBarrierMarks$Channel;LBarrierMarks$Task;)I"⟩ prog_1_method_33_code 4 (some .int) 2 := ⟨⟨(zm 57 zq2 (by decide +kernel) rfl), (zm 59 zq2 (by decide +kernel) rfl), (zmp (by decide +kernel) rfl), (zm 1 zq1 (by decide +kernel) rfl), (zm 60 zq2 (by decide +kernel) rfl)⟩, rfl, by decide, by decide, by decide +kernel⟩
theorem nl_B_73 : Cond.classLink "BarrierMarks" 73 "BarrierMarks$Source" ∈ zTs := (zm 237 zq1 (by decide +kernel) rfl)
theorem ni_1 : Cond.instantiable "BarrierMarks$Source" 13 ∈ zTs := (zm 238 zq1 (by decide +kernel) rfl)
theorem nz_1 : Cond.initialized "BarrierMarks$Source" ∈ zTs := (zm 12 zq1 (by decide +kernel) rfl)
theorem cn_B_75 : zCI "BarrierMarks" 75 ⟨"BarrierMarks$Source", "<init>", "(I)V"⟩ prog_6_method_1_code 2 1 := ⟨(zm 239 zq1 (by decide +kernel) rfl), (zm 0 zq2 (by decide +kernel) rfl), (zm 12 zq1 (by decide +kernel) rfl), (zm 1 zq2 (by decide +kernel) rfl), rfl, by decide, by decide, by decide +kernel⟩
theorem cv_B_54 : zCV "BarrierMarks" 54 "BarrierMarks" ⟨"BarrierMarks", "taskAt", "(I)LBarrierMarks$Task;"⟩ prog_1_method_25_code 2 (some (.object "BarrierMarks$Task")) 1 := ⟨⟨(zm 149 zq1 (by decide +kernel) rfl), (zm 151 zq1 (by decide +kernel) rfl), (zmp (by decide +kernel) rfl), (zm 1 zq1 (by decide +kernel) rfl), (zm 152 zq1 (by decide +kernel) rfl)⟩, rfl, by decide, by decide, by decide +kernel⟩
theorem th_B_262_240 : zThr "BarrierMarks" 240 262 244 "java/lang/IndexOutOfBoundsException" "no such channel" := ⟨by decide +kernel, (zm 153 zq1 (by decide +kernel) rfl), (zm 9 zq1 (by decide +kernel) rfl), by decide +kernel, by decide +kernel, tw_B_244, tx_B_244_240⟩
theorem cv_B_233 : zCV "BarrierMarks" 233 "BarrierMarks" ⟨"BarrierMarks", "channelAt", "(I)LBarrierMarks$Channel;"⟩ prog_1_method_26_code 2 (some (.object "BarrierMarks$Channel")) 1 := ⟨⟨(zm 124 zq2 (by decide +kernel) rfl), (zm 126 zq2 (by decide +kernel) rfl), (zmp (by decide +kernel) rfl), (zm 1 zq1 (by decide +kernel) rfl), (zm 127 zq2 (by decide +kernel) rfl)⟩, rfl, by decide, by decide, by decide +kernel⟩
theorem io_1 : ∀ cj ∈ [1, 2], ∃ q, zcl[cj]? = some q ∧ ((cj = 1 ∧ (q.1, "BarrierMarks$Source") ∈ zcast) ∨ (cj ≠ 1 ∧ (q.1, "BarrierMarks$Source") ∈ znc)) := by
  intro cj h
  simp only [List.mem_cons, List.not_mem_nil, or_false] at h
  rcases h with rfl | rfl
  · exact ⟨_, rfl, Or.inl ⟨rfl, by decide +kernel⟩⟩
  · exact ⟨_, rfl, Or.inr ⟨by decide, by decide +kernel⟩⟩
theorem th_B_242_66 : zThr "BarrierMarks" 66 242 70 "java/lang/IllegalStateException" "the channel is no source" := ⟨by decide +kernel, (zm 221 zq1 (by decide +kernel) rfl), (zm 10 zq1 (by decide +kernel) rfl), by decide +kernel, by decide +kernel, tw_B_70, tx_B_70_66⟩
theorem ck_1 : ∀ cj ∈ [1], ∃ q, zcl[cj]? = some q ∧ (q.1, "BarrierMarks$Source") ∈ zcast := by
  intro cj h
  simp only [List.mem_cons, List.not_mem_nil, or_false] at h
  subst h
  exact ⟨_, rfl, by decide +kernel⟩
theorem fl_S_25 : ∀ ci ∈ [1], z_fld "BarrierMarks$Source" 25 ci 9 := by
  intro ci h
  simp only [List.mem_cons, List.not_mem_nil, or_false] at h
  subst h
  exact ⟨_, _, _, "BarrierMarks$Source", rfl, by decide, zi1, (zm 13 zq2 (by decide +kernel) rfl), Or.inl rfl⟩
theorem pf_S_25 : ∀ ci ∈ [1], z_fld "BarrierMarks$Source" 25 ci 9 ∧ z_wrt ci 9 false "BarrierMarks$Source" .int := by
  intro ci h
  refine ⟨fl_S_25 ci h, ?_⟩
  simp only [List.mem_cons, List.not_mem_nil, or_false] at h
  subst h
  exact ⟨_, _, _, zty1, rfl, rfl, fun h => absurd h (by decide), by decide +kernel, zt1, zn1⟩
theorem fl_S_29 : ∀ ci ∈ [1], z_fld "BarrierMarks$Source" 29 ci 10 := by
  intro ci h
  simp only [List.mem_cons, List.not_mem_nil, or_false] at h
  subst h
  exact ⟨_, _, _, "BarrierMarks$Source", rfl, by decide, zi1, (zm 15 zq2 (by decide +kernel) rfl), Or.inl rfl⟩
theorem pf_S_29 : ∀ ci ∈ [1], z_fld "BarrierMarks$Source" 29 ci 10 ∧ z_wrt ci 10 false "BarrierMarks$Source" .long := by
  intro ci h
  refine ⟨fl_S_29 ci h, ?_⟩
  simp only [List.mem_cons, List.not_mem_nil, or_false] at h
  subst h
  exact ⟨_, _, _, zty1, rfl, rfl, fun h => absurd h (by decide), by decide +kernel, zt1, zn1⟩
theorem cv_B_101 : zCV "BarrierMarks" 101 "BarrierMarks" ⟨"BarrierMarks", "sourceAt", "(I)LBarrierMarks$Source;"⟩ prog_1_method_27_code 4 (some (.object "BarrierMarks$Source")) 1 := ⟨⟨(zm 120 zq2 (by decide +kernel) rfl), (zm 122 zq2 (by decide +kernel) rfl), (zmp (by decide +kernel) rfl), (zm 1 zq1 (by decide +kernel) rfl), (zm 123 zq2 (by decide +kernel) rfl)⟩, rfl, by decide, by decide, by decide +kernel⟩
theorem fl_B_105 : ∀ ci ∈ [1], z_fld "BarrierMarks" 105 ci 12 := by
  intro ci h
  simp only [List.mem_cons, List.not_mem_nil, or_false] at h
  subst h
  exact ⟨_, _, _, "BarrierMarks$Source", rfl, by decide, zi1, (zm 17 zq2 (by decide +kernel) rfl), Or.inl rfl⟩
theorem th_B_111_66 : zThr "BarrierMarks" 66 111 70 "java/lang/IllegalStateException" "the log has its end, or is full" := ⟨by decide +kernel, (zm 221 zq1 (by decide +kernel) rfl), (zm 10 zq1 (by decide +kernel) rfl), by decide +kernel, by decide +kernel, tw_B_70, tx_B_70_66⟩
theorem fl_B_108 : ∀ ci ∈ [1], z_fld "BarrierMarks" 108 ci 9 := by
  intro ci h
  simp only [List.mem_cons, List.not_mem_nil, or_false] at h
  subst h
  exact ⟨_, _, _, "BarrierMarks$Source", rfl, by decide, zi1, (zm 14 zq2 (by decide +kernel) rfl), Or.inl rfl⟩
theorem pf_B_58 : ∀ ci ∈ [5], z_fld "BarrierMarks" 58 ci 9 ∧ z_wrt ci 9 false "BarrierMarks" .boolean := by
  intro ci h
  refine ⟨fl_B_58 ci h, ?_⟩
  simp only [List.mem_cons, List.not_mem_nil, or_false] at h
  subst h
  exact ⟨_, _, _, zty5, rfl, rfl, fun h => absurd h (by decide), by decide +kernel, zt5, zn5⟩
theorem cv_B_113 : zCV "BarrierMarks" 113 "BarrierMarks$Source" ⟨"BarrierMarks$Source", "addRow", "(J)V"⟩ prog_6_method_2_code 3 none 1 := ⟨⟨(zm 131 zq2 (by decide +kernel) rfl), (zm 132 zq2 (by decide +kernel) rfl), (zm 133 zq2 (by decide +kernel) rfl), (zm 12 zq1 (by decide +kernel) rfl), (zm 134 zq2 (by decide +kernel) rfl)⟩, rfl, by decide, by decide, by decide +kernel⟩
theorem pf_B_105 : ∀ ci ∈ [1], z_fld "BarrierMarks" 105 ci 12 ∧ z_wrt ci 12 false "BarrierMarks" .boolean := by
  intro ci h
  refine ⟨fl_B_105 ci h, ?_⟩
  simp only [List.mem_cons, List.not_mem_nil, or_false] at h
  subst h
  exact ⟨_, _, _, zty1, rfl, rfl, fun h => absurd h (by decide), by decide +kernel, zt1, zn1⟩
theorem th_B_117_66 : zThr "BarrierMarks" 66 117 70 "java/lang/IllegalStateException" "the log has its end" := ⟨by decide +kernel, (zm 221 zq1 (by decide +kernel) rfl), (zm 10 zq1 (by decide +kernel) rfl), by decide +kernel, by decide +kernel, tw_B_70, tx_B_70_66⟩
theorem ol_M_3 : Cond.methodLink "BarrierMarks$Mark" 3 Lib.objectInit ∈ zTs := by decide +kernel
theorem fl_M_9 : ∀ ci ∈ [3], z_fld "BarrierMarks$Mark" 9 ci 8 := by
  intro ci h
  simp only [List.mem_cons, List.not_mem_nil, or_false] at h
  subst h
  exact ⟨_, _, _, "BarrierMarks$Mark", rfl, by decide, zi3, (zm 174 zq2 (by decide +kernel) rfl), Or.inl rfl⟩
theorem pf_M_9 : ∀ ci ∈ [3], z_fld "BarrierMarks$Mark" 9 ci 8 ∧ z_wrt ci 8 false "BarrierMarks$Mark" .int := by
  intro ci h
  refine ⟨fl_M_9 ci h, ?_⟩
  simp only [List.mem_cons, List.not_mem_nil, or_false] at h
  subst h
  exact ⟨_, _, _, zty3, rfl, rfl, fun h => absurd h (by decide), by decide +kernel, zt3, zn3⟩
theorem ml_M_15 : Cond.methodLink "BarrierMarks$Mark" 15 Lib.Math.max.name ∈ zTs := by decide +kernel
theorem ms_max : Cond.static Lib.Math.max.name ∈ zTs := by decide +kernel
theorem mi_ : Cond.initialized "java/lang/Math" ∈ zTs := by decide +kernel
theorem mc_max : Cond.code Lib.Math.max.name Lib.Math.max.code 2 (some .int) ∈ zTs := by decide +kernel
theorem fl_M_21 : ∀ ci ∈ [3], z_fld "BarrierMarks$Mark" 21 ci 0 := by
  intro ci h
  simp only [List.mem_cons, List.not_mem_nil, or_false] at h
  subst h
  exact ⟨_, _, _, "BarrierMarks$Mark", rfl, by decide, zi3, (zm 157 zq2 (by decide +kernel) rfl), Or.inl rfl⟩
theorem pf_M_21 : ∀ ci ∈ [3], z_fld "BarrierMarks$Mark" 21 ci 0 ∧ z_wrt ci 0 true "BarrierMarks$Mark" .int := by
  intro ci h
  refine ⟨fl_M_21 ci h, ?_⟩
  simp only [List.mem_cons, List.not_mem_nil, or_false] at h
  subst h
  exact ⟨_, _, _, zty3, rfl, rfl, fun _ => rfl, by decide +kernel, zt3, zn3⟩
theorem na_2 : Cond.arrayClass .boolean ∈ zTs := by decide +kernel
theorem fl_M_24 : ∀ ci ∈ [3], z_fld "BarrierMarks$Mark" 24 ci 1 := by
  intro ci h
  simp only [List.mem_cons, List.not_mem_nil, or_false] at h
  subst h
  exact ⟨_, _, _, "BarrierMarks$Mark", rfl, by decide, zi3, (zm 159 zq2 (by decide +kernel) rfl), Or.inl rfl⟩
theorem pf_M_24 : ∀ ci ∈ [3], z_fld "BarrierMarks$Mark" 24 ci 1 ∧ z_wrt ci 1 true "BarrierMarks$Mark" (.array .boolean) := by
  intro ci h
  refine ⟨fl_M_24 ci h, ?_⟩
  simp only [List.mem_cons, List.not_mem_nil, or_false] at h
  subst h
  exact ⟨_, _, _, zty3, rfl, rfl, fun _ => rfl, by decide +kernel, zt3, zn3⟩
theorem fl_M_28 : ∀ ci ∈ [3], z_fld "BarrierMarks$Mark" 28 ci 2 := by
  intro ci h
  simp only [List.mem_cons, List.not_mem_nil, or_false] at h
  subst h
  exact ⟨_, _, _, "BarrierMarks$Mark", rfl, by decide, zi3, (zm 161 zq2 (by decide +kernel) rfl), Or.inl rfl⟩
theorem pf_M_28 : ∀ ci ∈ [3], z_fld "BarrierMarks$Mark" 28 ci 2 ∧ z_wrt ci 2 true "BarrierMarks$Mark" (.array .boolean) := by
  intro ci h
  refine ⟨fl_M_28 ci h, ?_⟩
  simp only [List.mem_cons, List.not_mem_nil, or_false] at h
  subst h
  exact ⟨_, _, _, zty3, rfl, rfl, fun _ => rfl, by decide +kernel, zt3, zn3⟩
theorem fl_M_31 : ∀ ci ∈ [3], z_fld "BarrierMarks$Mark" 31 ci 3 := by
  intro ci h
  simp only [List.mem_cons, List.not_mem_nil, or_false] at h
  subst h
  exact ⟨_, _, _, "BarrierMarks$Mark", rfl, by decide, zi3, (zm 163 zq2 (by decide +kernel) rfl), Or.inl rfl⟩
theorem pf_M_31 : ∀ ci ∈ [3], z_fld "BarrierMarks$Mark" 31 ci 3 ∧ z_wrt ci 3 true "BarrierMarks$Mark" (.array .boolean) := by
  intro ci h
  refine ⟨fl_M_31 ci h, ?_⟩
  simp only [List.mem_cons, List.not_mem_nil, or_false] at h
  subst h
  exact ⟨_, _, _, zty3, rfl, rfl, fun _ => rfl, by decide +kernel, zt3, zn3⟩
theorem fl_M_34 : ∀ ci ∈ [3], z_fld "BarrierMarks$Mark" 34 ci 4 := by
  intro ci h
  simp only [List.mem_cons, List.not_mem_nil, or_false] at h
  subst h
  exact ⟨_, _, _, "BarrierMarks$Mark", rfl, by decide, zi3, (zm 165 zq2 (by decide +kernel) rfl), Or.inl rfl⟩
theorem pf_M_34 : ∀ ci ∈ [3], z_fld "BarrierMarks$Mark" 34 ci 4 ∧ z_wrt ci 4 true "BarrierMarks$Mark" (.array .long) := by
  intro ci h
  refine ⟨fl_M_34 ci h, ?_⟩
  simp only [List.mem_cons, List.not_mem_nil, or_false] at h
  subst h
  exact ⟨_, _, _, zty3, rfl, rfl, fun _ => rfl, by decide +kernel, zt3, zn3⟩
theorem fl_M_38 : ∀ ci ∈ [3], z_fld "BarrierMarks$Mark" 38 ci 5 := by
  intro ci h
  simp only [List.mem_cons, List.not_mem_nil, or_false] at h
  subst h
  exact ⟨_, _, _, "BarrierMarks$Mark", rfl, by decide, zi3, (zm 168 zq2 (by decide +kernel) rfl), Or.inl rfl⟩
theorem pf_M_38 : ∀ ci ∈ [3], z_fld "BarrierMarks$Mark" 38 ci 5 ∧ z_wrt ci 5 true "BarrierMarks$Mark" (.array .int) := by
  intro ci h
  refine ⟨fl_M_38 ci h, ?_⟩
  simp only [List.mem_cons, List.not_mem_nil, or_false] at h
  subst h
  exact ⟨_, _, _, zty3, rfl, rfl, fun _ => rfl, by decide +kernel, zt3, zn3⟩
theorem fl_M_42 : ∀ ci ∈ [3], z_fld "BarrierMarks$Mark" 42 ci 6 := by
  intro ci h
  simp only [List.mem_cons, List.not_mem_nil, or_false] at h
  subst h
  exact ⟨_, _, _, "BarrierMarks$Mark", rfl, by decide, zi3, (zm 171 zq2 (by decide +kernel) rfl), Or.inl rfl⟩
theorem pf_M_42 : ∀ ci ∈ [3], z_fld "BarrierMarks$Mark" 42 ci 6 ∧ z_wrt ci 6 true "BarrierMarks$Mark" (.array .boolean) := by
  intro ci h
  refine ⟨fl_M_42 ci h, ?_⟩
  simp only [List.mem_cons, List.not_mem_nil, or_false] at h
  subst h
  exact ⟨_, _, _, zty3, rfl, rfl, fun _ => rfl, by decide +kernel, zt3, zn3⟩
theorem fl_S_33 : ∀ ci ∈ [1], z_fld "BarrierMarks$Source" 33 ci 8 := by
  intro ci h
  simp only [List.mem_cons, List.not_mem_nil, or_false] at h
  subst h
  exact ⟨_, _, _, "BarrierMarks$Source", rfl, by decide, zi1, (zm 12 zq2 (by decide +kernel) rfl), Or.inl rfl⟩
theorem pf_S_33 : ∀ ci ∈ [1], z_fld "BarrierMarks$Source" 33 ci 8 ∧ z_wrt ci 8 false "BarrierMarks$Source" .int := by
  intro ci h
  refine ⟨fl_S_33 ci h, ?_⟩
  simp only [List.mem_cons, List.not_mem_nil, or_false] at h
  subst h
  exact ⟨_, _, _, zty1, rfl, rfl, fun h => absurd h (by decide), by decide +kernel, zt1, zn1⟩
theorem fl_M_45 : ∀ ci ∈ [4], z_fld "BarrierMarks$Mark" 45 ci 0 := by
  intro ci h
  simp only [List.mem_cons, List.not_mem_nil, or_false] at h
  subst h
  exact ⟨_, _, _, "BarrierMarks$Task", rfl, by decide, zi4, (zm 67 zq1 (by decide +kernel) rfl), Or.inl rfl⟩
theorem fl_M_48 : ∀ ci ∈ [4], z_fld "BarrierMarks$Mark" 48 ci 6 := by
  intro ci h
  simp only [List.mem_cons, List.not_mem_nil, or_false] at h
  subst h
  exact ⟨_, _, _, "BarrierMarks$Task", rfl, by decide, zi4, (zm 76 zq1 (by decide +kernel) rfl), Or.inl rfl⟩
theorem fl_M_52 : ∀ ci ∈ [4], z_fld "BarrierMarks$Mark" 52 ci 7 := by
  intro ci h
  simp only [List.mem_cons, List.not_mem_nil, or_false] at h
  subst h
  exact ⟨_, _, _, "BarrierMarks$Task", rfl, by decide, zi4, (zm 79 zq1 (by decide +kernel) rfl), Or.inl rfl⟩
theorem fl_M_54 : ∀ ci ∈ [4], z_fld "BarrierMarks$Mark" 54 ci 8 := by
  intro ci h
  simp only [List.mem_cons, List.not_mem_nil, or_false] at h
  subst h
  exact ⟨_, _, _, "BarrierMarks$Task", rfl, by decide, zi4, (zm 82 zq1 (by decide +kernel) rfl), Or.inl rfl⟩
theorem fl_K_18 : ∀ ci ∈ [0], z_fld "BarrierMarks$AckRow" 18 ci 3 := by
  intro ci h
  simp only [List.mem_cons, List.not_mem_nil, or_false] at h
  subst h
  exact ⟨_, _, _, "BarrierMarks$AckRow", rfl, by decide, zi0, (zm 38 zq1 (by decide +kernel) rfl), Or.inl rfl⟩
theorem pf_K_18 : ∀ ci ∈ [0], z_fld "BarrierMarks$AckRow" 18 ci 3 ∧ z_wrt ci 3 false "BarrierMarks$AckRow" .int := by
  intro ci h
  refine ⟨fl_K_18 ci h, ?_⟩
  simp only [List.mem_cons, List.not_mem_nil, or_false] at h
  subst h
  exact ⟨_, _, _, zty0, rfl, rfl, fun h => absurd h (by decide), by decide +kernel, zt0, zn0⟩
theorem fl_K_22 : ∀ ci ∈ [0], z_fld "BarrierMarks$AckRow" 22 ci 2 := by
  intro ci h
  simp only [List.mem_cons, List.not_mem_nil, or_false] at h
  subst h
  exact ⟨_, _, _, "BarrierMarks$AckRow", rfl, by decide, zi0, (zm 37 zq1 (by decide +kernel) rfl), Or.inl rfl⟩
theorem cv_B_300 : zCV "BarrierMarks" 300 "BarrierMarks$Mark" ⟨"BarrierMarks$Mark", "keepStateOf", "(LBarrierMarks$Task;)V"⟩ prog_5_method_2_code 3 none 1 := ⟨⟨(zm 209 zq2 (by decide +kernel) rfl), (zm 210 zq2 (by decide +kernel) rfl), (zm 211 zq2 (by decide +kernel) rfl), (zm 15 zq1 (by decide +kernel) rfl), (zm 212 zq2 (by decide +kernel) rfl)⟩, rfl, by decide, by decide, by decide +kernel⟩
theorem fl_B_24 : ∀ ci ∈ [5], z_fld "BarrierMarks" 24 ci 3 := by
  intro ci h
  simp only [List.mem_cons, List.not_mem_nil, or_false] at h
  subst h
  exact ⟨_, _, _, "BarrierMarks", rfl, by decide, zi5, (zm 107 zq1 (by decide +kernel) rfl), Or.inl rfl⟩
theorem fl_B_294 : ∀ ci ∈ [3], z_fld "BarrierMarks" 294 ci 0 := by
  intro ci h
  simp only [List.mem_cons, List.not_mem_nil, or_false] at h
  subst h
  exact ⟨_, _, _, "BarrierMarks$Mark", rfl, by decide, zi3, (zm 158 zq2 (by decide +kernel) rfl), Or.inl rfl⟩
theorem fl_B_304 : ∀ ci ∈ [4], z_fld "BarrierMarks" 304 ci 0 := by
  intro ci h
  simp only [List.mem_cons, List.not_mem_nil, or_false] at h
  subst h
  exact ⟨_, _, _, "BarrierMarks$Task", rfl, by decide, zi4, (zm 68 zq1 (by decide +kernel) rfl), Or.inl rfl⟩
theorem cv_B_177 : zCV "BarrierMarks" 177 "BarrierMarks$AckRow" ⟨"BarrierMarks$AckRow", "add", "(II)V"⟩ prog_2_method_2_code 4 none 2 := ⟨⟨(zm 213 zq2 (by decide +kernel) rfl), (zm 214 zq2 (by decide +kernel) rfl), (zm 215 zq2 (by decide +kernel) rfl), (zm 2 zq1 (by decide +kernel) rfl), (zm 216 zq2 (by decide +kernel) rfl)⟩, rfl, by decide, by decide, by decide +kernel⟩
theorem cv_B_134 : zCV "BarrierMarks" 134 "BarrierMarks" ⟨"BarrierMarks", "keepAndAck", "(LBarrierMarks$Mark;LBarrierMarks$Task;)V"⟩ prog_1_method_39_code 3 none 2 := ⟨⟨(zm 205 zq2 (by decide +kernel) rfl), (zm 207 zq2 (by decide +kernel) rfl), (zmp (by decide +kernel) rfl), (zm 1 zq1 (by decide +kernel) rfl), (zm 208 zq2 (by decide +kernel) rfl)⟩, rfl, by decide, by decide, by decide +kernel⟩
theorem fl_B_131 : ∀ ci ∈ [4], z_fld "BarrierMarks" 131 ci 8 := by
  intro ci h
  simp only [List.mem_cons, List.not_mem_nil, or_false] at h
  subst h
  exact ⟨_, _, _, "BarrierMarks$Task", rfl, by decide, zi4, (zm 83 zq1 (by decide +kernel) rfl), Or.inl rfl⟩
theorem ca_B_128_S : zCA "BarrierMarks" 128 "BarrierMarks$Source" "BarrierMarks$Channel" ⟨"BarrierMarks$Channel", "beginMark", "(I)V"⟩ ⟨"BarrierMarks$Source", "beginMark", "(I)V"⟩ prog_6_method_8_code 2 none 1 := ⟨⟨(zm 196 zq2 (by decide +kernel) rfl), (zm 198 zq2 (by decide +kernel) rfl), (zm 202 zq2 (by decide +kernel) rfl), (zm 203 zq2 (by decide +kernel) rfl), (zm 12 zq1 (by decide +kernel) rfl), (zm 204 zq2 (by decide +kernel) rfl)⟩, by decide +kernel, by decide, by decide, by decide +kernel⟩
theorem ca_B_128_L : zCA "BarrierMarks" 128 "BarrierMarks$Line" "BarrierMarks$Channel" ⟨"BarrierMarks$Channel", "beginMark", "(I)V"⟩ ⟨"BarrierMarks$Line", "beginMark", "(I)V"⟩ prog_4_method_7_code 2 none 1 := ⟨⟨(zm 196 zq2 (by decide +kernel) rfl), (zm 198 zq2 (by decide +kernel) rfl), (zm 199 zq2 (by decide +kernel) rfl), (zm 200 zq2 (by decide +kernel) rfl), (zm 14 zq1 (by decide +kernel) rfl), (zm 201 zq2 (by decide +kernel) rfl)⟩, by decide +kernel, by decide, by decide, by decide +kernel⟩
theorem fl_B_119 : ∀ ci ∈ [5], z_fld "BarrierMarks" 119 ci 8 := by
  intro ci h
  simp only [List.mem_cons, List.not_mem_nil, or_false] at h
  subst h
  exact ⟨_, _, _, "BarrierMarks", rfl, by decide, zi5, (zm 112 zq1 (by decide +kernel) rfl), Or.inl rfl⟩
theorem th_B_125_66 : zThr "BarrierMarks" 66 125 70 "java/lang/IllegalStateException" "three marks are begun, or there are forty" := ⟨by decide +kernel, (zm 221 zq1 (by decide +kernel) rfl), (zm 10 zq1 (by decide +kernel) rfl), by decide +kernel, by decide +kernel, tw_B_70, tx_B_70_66⟩
theorem fl_B_122 : ∀ ci ∈ [5], z_fld "BarrierMarks" 122 ci 7 := by
  intro ci h
  simp only [List.mem_cons, List.not_mem_nil, or_false] at h
  subst h
  exact ⟨_, _, _, "BarrierMarks", rfl, by decide, zi5, (zm 111 zq1 (by decide +kernel) rfl), Or.inl rfl⟩
theorem nl_B_15 : Cond.classLink "BarrierMarks" 15 "BarrierMarks$Mark" ∈ zTs := (zm 27 zq1 (by decide +kernel) rfl)
theorem ni_3 : Cond.instantiable "BarrierMarks$Mark" 9 ∈ zTs := (zm 151 zq2 (by decide +kernel) rfl)
theorem nz_3 : Cond.initialized "BarrierMarks$Mark" ∈ zTs := (zm 15 zq1 (by decide +kernel) rfl)
theorem cn_B_127 : zCI "BarrierMarks" 127 ⟨"BarrierMarks$Mark", "<init>", "(II)V"⟩ prog_5_method_1_code 4 2 := ⟨(zm 152 zq2 (by decide +kernel) rfl), (zm 153 zq2 (by decide +kernel) rfl), (zm 15 zq1 (by decide +kernel) rfl), (zm 154 zq2 (by decide +kernel) rfl), rfl, by decide, by decide, by decide +kernel⟩
theorem fl_B_17 : ∀ ci ∈ [5], z_fld "BarrierMarks" 17 ci 2 := by
  intro ci h
  simp only [List.mem_cons, List.not_mem_nil, or_false] at h
  subst h
  exact ⟨_, _, _, "BarrierMarks", rfl, by decide, zi5, (zm 106 zq1 (by decide +kernel) rfl), Or.inl rfl⟩
theorem ae_6 : ∀ ci ∈ [3], ∃ q, zcl[ci]? = some q ∧ (q.1 = "BarrierMarks$Mark" ∨ (q.1, "BarrierMarks$Mark") ∈ zcast) := by
  intro ci h
  simp only [List.mem_cons, List.not_mem_nil, or_false] at h
  subst h
  exact ⟨_, rfl, Or.inl rfl⟩
theorem pf_B_122 : ∀ ci ∈ [5], z_fld "BarrierMarks" 122 ci 7 ∧ z_wrt ci 7 false "BarrierMarks" .int := by
  intro ci h
  refine ⟨fl_B_122 ci h, ?_⟩
  simp only [List.mem_cons, List.not_mem_nil, or_false] at h
  subst h
  exact ⟨_, _, _, zty5, rfl, rfl, fun h => absurd h (by decide), by decide +kernel, zt5, zn5⟩
theorem pf_B_119 : ∀ ci ∈ [5], z_fld "BarrierMarks" 119 ci 8 ∧ z_wrt ci 8 false "BarrierMarks" .int := by
  intro ci h
  refine ⟨fl_B_119 ci h, ?_⟩
  simp only [List.mem_cons, List.not_mem_nil, or_false] at h
  subst h
  exact ⟨_, _, _, zty5, rfl, rfl, fun h => absurd h (by decide), by decide +kernel, zt5, zn5⟩
theorem th_B_267_240 : zThr "BarrierMarks" 240 267 244 "java/lang/IndexOutOfBoundsException" "no such mark" := ⟨by decide +kernel, (zm 153 zq1 (by decide +kernel) rfl), (zm 9 zq1 (by decide +kernel) rfl), by decide +kernel, by decide +kernel, tw_B_244, tx_B_244_240⟩
theorem pf_K_22 : ∀ ci ∈ [0], z_fld "BarrierMarks$AckRow" 22 ci 2 ∧ z_wrt ci 2 false "BarrierMarks$AckRow" .int := by
  intro ci h
  refine ⟨fl_K_22 ci h, ?_⟩
  simp only [List.mem_cons, List.not_mem_nil, or_false] at h
  subst h
  exact ⟨_, _, _, zty0, rfl, rfl, fun h => absurd h (by decide), by decide +kernel, zt0, zn0⟩
theorem fl_L_19 : ∀ ci ∈ [2], z_fld "BarrierMarks$Line" 19 ci 6 := by
  intro ci h
  simp only [List.mem_cons, List.not_mem_nil, or_false] at h
  subst h
  exact ⟨_, _, _, "BarrierMarks$Line", rfl, by decide, zi2, (zm 95 zq2 (by decide +kernel) rfl), Or.inl rfl⟩
theorem pf_L_19 : ∀ ci ∈ [2], z_fld "BarrierMarks$Line" 19 ci 6 ∧ z_wrt ci 6 false "BarrierMarks$Line" .int := by
  intro ci h
  refine ⟨fl_L_19 ci h, ?_⟩
  simp only [List.mem_cons, List.not_mem_nil, or_false] at h
  subst h
  exact ⟨_, _, _, zty2, rfl, rfl, fun h => absurd h (by decide), by decide +kernel, zt2, zn2⟩
theorem ca_B_297_S : zCA "BarrierMarks" 297 "BarrierMarks$Source" "BarrierMarks$Channel" ⟨"BarrierMarks$Channel", "dropBarrier", "(I)V"⟩ ⟨"BarrierMarks$Source", "dropBarrier", "(I)V"⟩ prog_6_method_9_code 4 none 1 := ⟨⟨(zm 13 zq3 (by decide +kernel) rfl), (zm 15 zq3 (by decide +kernel) rfl), (zm 19 zq3 (by decide +kernel) rfl), (zm 20 zq3 (by decide +kernel) rfl), (zm 12 zq1 (by decide +kernel) rfl), (zm 21 zq3 (by decide +kernel) rfl)⟩, by decide +kernel, by decide, by decide, by decide +kernel⟩
theorem ca_B_297_L : zCA "BarrierMarks" 297 "BarrierMarks$Line" "BarrierMarks$Channel" ⟨"BarrierMarks$Channel", "dropBarrier", "(I)V"⟩ ⟨"BarrierMarks$Line", "dropBarrier", "(I)V"⟩ prog_4_method_8_code 4 none 1 := ⟨⟨(zm 13 zq3 (by decide +kernel) rfl), (zm 15 zq3 (by decide +kernel) rfl), (zm 16 zq3 (by decide +kernel) rfl), (zm 17 zq3 (by decide +kernel) rfl), (zm 14 zq1 (by decide +kernel) rfl), (zm 18 zq3 (by decide +kernel) rfl)⟩, by decide +kernel, by decide, by decide, by decide +kernel⟩
theorem fl_B_195 : ∀ ci ∈ [1, 2], z_fld "BarrierMarks" 195 ci 2 := by
  intro ci h
  simp only [List.mem_cons, List.not_mem_nil, or_false] at h
  rcases h with rfl | rfl
  · exact ⟨_, _, _, "BarrierMarks$Channel", rfl, by decide, zi1, (zm 25 zq2 (by decide +kernel) rfl), Or.inl rfl⟩
  · exact ⟨_, _, _, "BarrierMarks$Channel", rfl, by decide, zi2, (zm 25 zq2 (by decide +kernel) rfl), Or.inl rfl⟩
theorem pf_B_195 : ∀ ci ∈ [1, 2], z_fld "BarrierMarks" 195 ci 2 ∧ z_wrt ci 2 false "BarrierMarks" .int := by
  intro ci h
  refine ⟨fl_B_195 ci h, ?_⟩
  simp only [List.mem_cons, List.not_mem_nil, or_false] at h
  rcases h with rfl | rfl
  · exact ⟨_, _, _, zty1, rfl, rfl, fun h => absurd h (by decide), by decide +kernel, zt1, zn1⟩
  · exact ⟨_, _, _, zty2, rfl, rfl, fun h => absurd h (by decide), by decide +kernel, zt2, zn2⟩
theorem fl_B_183 : ∀ ci ∈ [3], z_fld "BarrierMarks" 183 ci 8 := by
  intro ci h
  simp only [List.mem_cons, List.not_mem_nil, or_false] at h
  subst h
  exact ⟨_, _, _, "BarrierMarks$Mark", rfl, by decide, zi3, (zm 175 zq2 (by decide +kernel) rfl), Or.inl rfl⟩
theorem pf_B_183 : ∀ ci ∈ [3], z_fld "BarrierMarks" 183 ci 8 ∧ z_wrt ci 8 false "BarrierMarks" .int := by
  intro ci h
  refine ⟨fl_B_183 ci h, ?_⟩
  simp only [List.mem_cons, List.not_mem_nil, or_false] at h
  subst h
  exact ⟨_, _, _, zty3, rfl, rfl, fun h => absurd h (by decide), by decide +kernel, zt3, zn3⟩
theorem cv_B_156 : zCV "BarrierMarks" 156 "BarrierMarks" ⟨"BarrierMarks", "stopMark", "(LBarrierMarks$Mark;I)V"⟩ prog_1_method_38_code 5 none 2 := ⟨⟨(zm 9 zq3 (by decide +kernel) rfl), (zm 11 zq3 (by decide +kernel) rfl), (zmp (by decide +kernel) rfl), (zm 1 zq1 (by decide +kernel) rfl), (zm 12 zq3 (by decide +kernel) rfl)⟩, rfl, by decide, by decide, by decide +kernel⟩
theorem fl_B_172 : ∀ ci ∈ [0], z_fld "BarrierMarks" 172 ci 3 := by
  intro ci h
  simp only [List.mem_cons, List.not_mem_nil, or_false] at h
  subst h
  exact ⟨_, _, _, "BarrierMarks$AckRow", rfl, by decide, zi0, (zm 39 zq1 (by decide +kernel) rfl), Or.inl rfl⟩
theorem cv_B_279 : zCV "BarrierMarks" 279 "BarrierMarks$AckRow" ⟨"BarrierMarks$AckRow", "firstMark", "()I"⟩ prog_2_method_3_code 1 (some .int) 0 := ⟨⟨(zm 228 zq2 (by decide +kernel) rfl), (zm 229 zq2 (by decide +kernel) rfl), (zm 230 zq2 (by decide +kernel) rfl), (zm 2 zq1 (by decide +kernel) rfl), (zm 231 zq2 (by decide +kernel) rfl)⟩, rfl, by decide, by decide, by decide +kernel⟩
theorem cv_B_230 : zCV "BarrierMarks" 230 "BarrierMarks" ⟨"BarrierMarks", "markAt", "(I)LBarrierMarks$Mark;"⟩ prog_1_method_29_code 2 (some (.object "BarrierMarks$Mark")) 1 := ⟨⟨(zm 232 zq2 (by decide +kernel) rfl), (zm 234 zq2 (by decide +kernel) rfl), (zmp (by decide +kernel) rfl), (zm 1 zq1 (by decide +kernel) rfl), (zm 235 zq2 (by decide +kernel) rfl)⟩, rfl, by decide, by decide, by decide +kernel⟩
theorem cv_B_282 : zCV "BarrierMarks" 282 "BarrierMarks$AckRow" ⟨"BarrierMarks$AckRow", "firstTask", "()I"⟩ prog_2_method_4_code 1 (some .int) 0 := ⟨⟨(zm 237 zq2 (by decide +kernel) rfl), (zm 238 zq2 (by decide +kernel) rfl), (zm 239 zq2 (by decide +kernel) rfl), (zm 2 zq1 (by decide +kernel) rfl), (zm 0 zq3 (by decide +kernel) rfl)⟩, rfl, by decide, by decide, by decide +kernel⟩
theorem cv_B_285 : zCV "BarrierMarks" 285 "BarrierMarks$AckRow" ⟨"BarrierMarks$AckRow", "dropFirst", "()V"⟩ prog_2_method_5_code 1 none 0 := ⟨⟨(zm 1 zq3 (by decide +kernel) rfl), (zm 2 zq3 (by decide +kernel) rfl), (zm 3 zq3 (by decide +kernel) rfl), (zm 2 zq1 (by decide +kernel) rfl), (zm 4 zq3 (by decide +kernel) rfl)⟩, rfl, by decide, by decide, by decide +kernel⟩
theorem fl_B_288 : ∀ ci ∈ [3], z_fld "BarrierMarks" 288 ci 3 := by
  intro ci h
  simp only [List.mem_cons, List.not_mem_nil, or_false] at h
  subst h
  exact ⟨_, _, _, "BarrierMarks$Mark", rfl, by decide, zi3, (zm 164 zq2 (by decide +kernel) rfl), Or.inl rfl⟩
theorem fl_B_160 : ∀ ci ∈ [3], z_fld "BarrierMarks" 160 ci 7 := by
  intro ci h
  simp only [List.mem_cons, List.not_mem_nil, or_false] at h
  subst h
  exact ⟨_, _, _, "BarrierMarks$Mark", rfl, by decide, zi3, (zm 173 zq2 (by decide +kernel) rfl), Or.inl rfl⟩
theorem pf_B_160 : ∀ ci ∈ [3], z_fld "BarrierMarks" 160 ci 7 ∧ z_wrt ci 7 false "BarrierMarks" .int := by
  intro ci h
  refine ⟨fl_B_160 ci h, ?_⟩
  simp only [List.mem_cons, List.not_mem_nil, or_false] at h
  subst h
  exact ⟨_, _, _, zty3, rfl, rfl, fun h => absurd h (by decide), by decide +kernel, zt3, zn3⟩
theorem cv_B_291 : zCV "BarrierMarks" 291 "BarrierMarks" ⟨"BarrierMarks", "completeMark", "(LBarrierMarks$Mark;)V"⟩ prog_1_method_37_code 3 none 1 := ⟨⟨(zm 5 zq3 (by decide +kernel) rfl), (zm 7 zq3 (by decide +kernel) rfl), (zmp (by decide +kernel) rfl), (zm 1 zq1 (by decide +kernel) rfl), (zm 8 zq3 (by decide +kernel) rfl)⟩, rfl, by decide, by decide, by decide +kernel⟩
theorem fl_T_33 : ∀ ci ∈ [1, 2], z_fld "BarrierMarks$Task" 33 ci 2 := by
  intro ci h
  simp only [List.mem_cons, List.not_mem_nil, or_false] at h
  rcases h with rfl | rfl
  · exact ⟨_, _, _, "BarrierMarks$Channel", rfl, by decide, zi1, (zm 24 zq2 (by decide +kernel) rfl), Or.inl rfl⟩
  · exact ⟨_, _, _, "BarrierMarks$Channel", rfl, by decide, zi2, (zm 24 zq2 (by decide +kernel) rfl), Or.inl rfl⟩
theorem fl_T_36 : ∀ ci ∈ [1, 2], z_fld "BarrierMarks$Task" 36 ci 3 := by
  intro ci h
  simp only [List.mem_cons, List.not_mem_nil, or_false] at h
  rcases h with rfl | rfl
  · exact ⟨_, _, _, "BarrierMarks$Channel", rfl, by decide, zi1, (zm 28 zq2 (by decide +kernel) rfl), Or.inl rfl⟩
  · exact ⟨_, _, _, "BarrierMarks$Channel", rfl, by decide, zi2, (zm 28 zq2 (by decide +kernel) rfl), Or.inl rfl⟩
theorem fl_S_36 : ∀ ci ∈ [1], z_fld "BarrierMarks$Source" 36 ci 11 := by
  intro ci h
  simp only [List.mem_cons, List.not_mem_nil, or_false] at h
  subst h
  exact ⟨_, _, _, "BarrierMarks$Source", rfl, by decide, zi1, (zm 16 zq2 (by decide +kernel) rfl), Or.inl rfl⟩
theorem fl_S_39 : ∀ ci ∈ [1], z_fld "BarrierMarks$Source" 39 ci 3 := by
  intro ci h
  simp only [List.mem_cons, List.not_mem_nil, or_false] at h
  subst h
  exact ⟨_, _, _, "BarrierMarks$Source", rfl, by decide, zi1, (zm 26 zq2 (by decide +kernel) rfl), Or.inr (zm 27 zq2 (by decide +kernel) rfl)⟩
theorem cv_S_43 : zCV "BarrierMarks$Source" 43 "BarrierMarks$Source" ⟨"BarrierMarks$Source", "barrierIsNext", "()Z"⟩ prog_6_method_3_code 1 (some .boolean) 0 := ⟨⟨(zm 47 zq3 (by decide +kernel) rfl), (zm 48 zq3 (by decide +kernel) rfl), (zm 49 zq3 (by decide +kernel) rfl), (zm 12 zq1 (by decide +kernel) rfl), (zm 50 zq3 (by decide +kernel) rfl)⟩, rfl, by decide, by decide, by decide +kernel⟩
theorem fl_S_47 : ∀ ci ∈ [1], z_fld "BarrierMarks$Source" 47 ci 12 := by
  intro ci h
  simp only [List.mem_cons, List.not_mem_nil, or_false] at h
  subst h
  exact ⟨_, _, _, "BarrierMarks$Source", rfl, by decide, zi1, (zm 18 zq2 (by decide +kernel) rfl), Or.inl rfl⟩
theorem ca_T_43_S : zCA "BarrierMarks$Task" 43 "BarrierMarks$Source" "BarrierMarks$Channel" ⟨"BarrierMarks$Channel", "nextKind", "()I"⟩ ⟨"BarrierMarks$Source", "nextKind", "()I"⟩ prog_6_method_4_code 1 (some .int) 0 := ⟨⟨(zm 38 zq3 (by decide +kernel) rfl), (zm 40 zq3 (by decide +kernel) rfl), (zm 44 zq3 (by decide +kernel) rfl), (zm 45 zq3 (by decide +kernel) rfl), (zm 12 zq1 (by decide +kernel) rfl), (zm 46 zq3 (by decide +kernel) rfl)⟩, by decide +kernel, by decide, by decide, by decide +kernel⟩
theorem ca_T_43_L : zCA "BarrierMarks$Task" 43 "BarrierMarks$Line" "BarrierMarks$Channel" ⟨"BarrierMarks$Channel", "nextKind", "()I"⟩ ⟨"BarrierMarks$Line", "nextKind", "()I"⟩ prog_4_method_3_code 1 (some .int) 0 := ⟨⟨(zm 38 zq3 (by decide +kernel) rfl), (zm 40 zq3 (by decide +kernel) rfl), (zm 41 zq3 (by decide +kernel) rfl), (zm 42 zq3 (by decide +kernel) rfl), (zm 14 zq1 (by decide +kernel) rfl), (zm 43 zq3 (by decide +kernel) rfl)⟩, by decide +kernel, by decide, by decide, by decide +kernel⟩
theorem fl_T_40 : ∀ ci ∈ [4], z_fld "BarrierMarks$Task" 40 ci 5 := by
  intro ci h
  simp only [List.mem_cons, List.not_mem_nil, or_false] at h
  subst h
  exact ⟨_, _, _, "BarrierMarks$Task", rfl, by decide, zi4, (zm 75 zq1 (by decide +kernel) rfl), Or.inl rfl⟩
theorem fl_T_47 : ∀ ci ∈ [2], z_fld "BarrierMarks$Task" 47 ci 6 := by
  intro ci h
  simp only [List.mem_cons, List.not_mem_nil, or_false] at h
  subst h
  exact ⟨_, _, _, "BarrierMarks$Line", rfl, by decide, zi2, (zm 96 zq2 (by decide +kernel) rfl), Or.inl rfl⟩
theorem pf_S_36 : ∀ ci ∈ [1], z_fld "BarrierMarks$Source" 36 ci 11 ∧ z_wrt ci 11 false "BarrierMarks$Source" .int := by
  intro ci h
  refine ⟨fl_S_36 ci h, ?_⟩
  simp only [List.mem_cons, List.not_mem_nil, or_false] at h
  subst h
  exact ⟨_, _, _, zty1, rfl, rfl, fun h => absurd h (by decide), by decide +kernel, zt1, zn1⟩
theorem cv_S_50 : zCV "BarrierMarks$Source" 50 "BarrierMarks$Source" ⟨"BarrierMarks$Source", "dropBarrier", "(I)V"⟩ prog_6_method_9_code 4 none 1 := ⟨⟨(zm 77 zq3 (by decide +kernel) rfl), (zm 20 zq3 (by decide +kernel) rfl), (zm 112 zq5 (by decide +kernel) rfl), (zm 12 zq1 (by decide +kernel) rfl), (zm 21 zq3 (by decide +kernel) rfl)⟩, rfl, by decide, by decide, by decide +kernel⟩
theorem al_L_23 : Cond.methodLink "BarrierMarks$Line" 23 arraycopyName ∈ zTs := by decide +kernel
theorem an_ : Cond.native arraycopyName ∈ zTs := by decide +kernel
theorem as_ : Cond.static arraycopyName ∈ zTs := by decide +kernel
theorem ai_ : Cond.initialized "java/lang/System" ∈ zTs := by decide +kernel
theorem pf_T_40 : ∀ ci ∈ [4], z_fld "BarrierMarks$Task" 40 ci 5 ∧ z_wrt ci 5 false "BarrierMarks$Task" .int := by
  intro ci h
  refine ⟨fl_T_40 ci h, ?_⟩
  simp only [List.mem_cons, List.not_mem_nil, or_false] at h
  subst h
  exact ⟨_, _, _, zty4, rfl, rfl, fun h => absurd h (by decide), by decide +kernel, zt4, zn4⟩
theorem cv_T_50 : zCV "BarrierMarks$Task" 50 "BarrierMarks$Line" ⟨"BarrierMarks$Line", "put", "(IJ)V"⟩ prog_4_method_2_code 4 none 2 := ⟨⟨(zm 87 zq3 (by decide +kernel) rfl), (zm 88 zq3 (by decide +kernel) rfl), (zm 89 zq3 (by decide +kernel) rfl), (zm 14 zq1 (by decide +kernel) rfl), (zm 90 zq3 (by decide +kernel) rfl)⟩, rfl, by decide, by decide, by decide +kernel⟩
theorem ca_B_344_S : zCA "BarrierMarks" 344 "BarrierMarks$Source" "BarrierMarks$Channel" ⟨"BarrierMarks$Channel", "passNext", "()V"⟩ ⟨"BarrierMarks$Source", "passNext", "()V"⟩ prog_6_method_6_code 1 none 0 := ⟨⟨(zm 65 zq3 (by decide +kernel) rfl), (zm 67 zq3 (by decide +kernel) rfl), (zm 74 zq3 (by decide +kernel) rfl), (zm 75 zq3 (by decide +kernel) rfl), (zm 12 zq1 (by decide +kernel) rfl), (zm 76 zq3 (by decide +kernel) rfl)⟩, by decide +kernel, by decide, by decide, by decide +kernel⟩
theorem ca_B_344_L : zCA "BarrierMarks" 344 "BarrierMarks$Line" "BarrierMarks$Channel" ⟨"BarrierMarks$Channel", "passNext", "()V"⟩ ⟨"BarrierMarks$Line", "passNext", "()V"⟩ prog_4_method_5_code 1 none 0 := ⟨⟨(zm 65 zq3 (by decide +kernel) rfl), (zm 67 zq3 (by decide +kernel) rfl), (zm 68 zq3 (by decide +kernel) rfl), (zm 69 zq3 (by decide +kernel) rfl), (zm 14 zq1 (by decide +kernel) rfl), (zm 70 zq3 (by decide +kernel) rfl)⟩, by decide +kernel, by decide, by decide, by decide +kernel⟩
theorem cv_B_347 : zCV "BarrierMarks" 347 "BarrierMarks$Task" ⟨"BarrierMarks$Task", "lookFromBehind", "(I)V"⟩ prog_7_method_8_code 2 none 1 := ⟨⟨(zm 78 zq3 (by decide +kernel) rfl), (zm 79 zq3 (by decide +kernel) rfl), (zm 80 zq3 (by decide +kernel) rfl), (zm 4 zq1 (by decide +kernel) rfl), (zm 81 zq3 (by decide +kernel) rfl)⟩, rfl, by decide, by decide, by decide +kernel⟩
theorem fl_B_208 : ∀ ci ∈ [1, 2], z_fld "BarrierMarks" 208 ci 3 := by
  intro ci h
  simp only [List.mem_cons, List.not_mem_nil, or_false] at h
  rcases h with rfl | rfl
  · exact ⟨_, _, _, "BarrierMarks$Channel", rfl, by decide, zi1, (zm 29 zq2 (by decide +kernel) rfl), Or.inl rfl⟩
  · exact ⟨_, _, _, "BarrierMarks$Channel", rfl, by decide, zi2, (zm 29 zq2 (by decide +kernel) rfl), Or.inl rfl⟩
theorem pf_B_208 : ∀ ci ∈ [1, 2], z_fld "BarrierMarks" 208 ci 3 ∧ z_wrt ci 3 false "BarrierMarks" .boolean := by
  intro ci h
  refine ⟨fl_B_208 ci h, ?_⟩
  simp only [List.mem_cons, List.not_mem_nil, or_false] at h
  rcases h with rfl | rfl
  · exact ⟨_, _, _, zty1, rfl, rfl, fun h => absurd h (by decide), by decide +kernel, zt1, zn1⟩
  · exact ⟨_, _, _, zty2, rfl, rfl, fun h => absurd h (by decide), by decide +kernel, zt2, zn2⟩
theorem fl_B_212 : ∀ ci ∈ [4], z_fld "BarrierMarks" 212 ci 6 := by
  intro ci h
  simp only [List.mem_cons, List.not_mem_nil, or_false] at h
  subst h
  exact ⟨_, _, _, "BarrierMarks$Task", rfl, by decide, zi4, (zm 78 zq1 (by decide +kernel) rfl), Or.inl rfl⟩
theorem pf_B_212 : ∀ ci ∈ [4], z_fld "BarrierMarks" 212 ci 6 ∧ z_wrt ci 6 false "BarrierMarks" .long := by
  intro ci h
  refine ⟨fl_B_212 ci h, ?_⟩
  simp only [List.mem_cons, List.not_mem_nil, or_false] at h
  subst h
  exact ⟨_, _, _, zty4, rfl, rfl, fun h => absurd h (by decide), by decide +kernel, zt4, zn4⟩
theorem fl_B_216 : ∀ ci ∈ [4], z_fld "BarrierMarks" 216 ci 7 := by
  intro ci h
  simp only [List.mem_cons, List.not_mem_nil, or_false] at h
  subst h
  exact ⟨_, _, _, "BarrierMarks$Task", rfl, by decide, zi4, (zm 81 zq1 (by decide +kernel) rfl), Or.inl rfl⟩
theorem pf_B_216 : ∀ ci ∈ [4], z_fld "BarrierMarks" 216 ci 7 ∧ z_wrt ci 7 false "BarrierMarks" .int := by
  intro ci h
  refine ⟨fl_B_216 ci h, ?_⟩
  simp only [List.mem_cons, List.not_mem_nil, or_false] at h
  subst h
  exact ⟨_, _, _, zty4, rfl, rfl, fun h => absurd h (by decide), by decide +kernel, zt4, zn4⟩
theorem kl_B_350 : Cond.constantLong "BarrierMarks" 350 3 ∈ zTs := (zm 82 zq3 (by decide +kernel) rfl)
theorem cv_B_324 : zCV "BarrierMarks" 324 "BarrierMarks$Task" ⟨"BarrierMarks$Task", "putOut", "(IJ)V"⟩ prog_7_method_10_code 5 none 2 := ⟨⟨(zm 83 zq3 (by decide +kernel) rfl), (zm 84 zq3 (by decide +kernel) rfl), (zm 85 zq3 (by decide +kernel) rfl), (zm 4 zq1 (by decide +kernel) rfl), (zm 86 zq3 (by decide +kernel) rfl)⟩, rfl, by decide, by decide, by decide +kernel⟩
theorem cv_B_331 : zCV "BarrierMarks" 331 "BarrierMarks$Task" ⟨"BarrierMarks$Task", "nextOffer", "()I"⟩ prog_7_method_7_code 3 (some .int) 0 := ⟨⟨(zm 34 zq3 (by decide +kernel) rfl), (zm 35 zq3 (by decide +kernel) rfl), (zm 36 zq3 (by decide +kernel) rfl), (zm 4 zq1 (by decide +kernel) rfl), (zm 37 zq3 (by decide +kernel) rfl)⟩, rfl, by decide, by decide, by decide +kernel⟩
theorem fl_B_334 : ∀ ci ∈ [4], z_fld "BarrierMarks" 334 ci 1 := by
  intro ci h
  simp only [List.mem_cons, List.not_mem_nil, or_false] at h
  subst h
  exact ⟨_, _, _, "BarrierMarks$Task", rfl, by decide, zi4, (zm 70 zq1 (by decide +kernel) rfl), Or.inl rfl⟩
theorem ca_B_337_S : zCA "BarrierMarks" 337 "BarrierMarks$Source" "BarrierMarks$Channel" ⟨"BarrierMarks$Channel", "nextKind", "()I"⟩ ⟨"BarrierMarks$Source", "nextKind", "()I"⟩ prog_6_method_4_code 1 (some .int) 0 := ⟨⟨(zm 51 zq3 (by decide +kernel) rfl), (zm 40 zq3 (by decide +kernel) rfl), (zm 44 zq3 (by decide +kernel) rfl), (zm 45 zq3 (by decide +kernel) rfl), (zm 12 zq1 (by decide +kernel) rfl), (zm 46 zq3 (by decide +kernel) rfl)⟩, by decide +kernel, by decide, by decide, by decide +kernel⟩
theorem ca_B_337_L : zCA "BarrierMarks" 337 "BarrierMarks$Line" "BarrierMarks$Channel" ⟨"BarrierMarks$Channel", "nextKind", "()I"⟩ ⟨"BarrierMarks$Line", "nextKind", "()I"⟩ prog_4_method_3_code 1 (some .int) 0 := ⟨⟨(zm 51 zq3 (by decide +kernel) rfl), (zm 40 zq3 (by decide +kernel) rfl), (zm 41 zq3 (by decide +kernel) rfl), (zm 42 zq3 (by decide +kernel) rfl), (zm 14 zq1 (by decide +kernel) rfl), (zm 43 zq3 (by decide +kernel) rfl)⟩, by decide +kernel, by decide, by decide, by decide +kernel⟩
theorem ca_B_340_S : zCA "BarrierMarks" 340 "BarrierMarks$Source" "BarrierMarks$Channel" ⟨"BarrierMarks$Channel", "nextValue", "()J"⟩ ⟨"BarrierMarks$Source", "nextValue", "()J"⟩ prog_6_method_5_code 1 (some .long) 0 := ⟨⟨(zm 52 zq3 (by decide +kernel) rfl), (zm 54 zq3 (by decide +kernel) rfl), (zm 58 zq3 (by decide +kernel) rfl), (zm 59 zq3 (by decide +kernel) rfl), (zm 12 zq1 (by decide +kernel) rfl), (zm 60 zq3 (by decide +kernel) rfl)⟩, by decide +kernel, by decide, by decide, by decide +kernel⟩
theorem ca_B_340_L : zCA "BarrierMarks" 340 "BarrierMarks$Line" "BarrierMarks$Channel" ⟨"BarrierMarks$Channel", "nextValue", "()J"⟩ ⟨"BarrierMarks$Line", "nextValue", "()J"⟩ prog_4_method_4_code 1 (some .long) 0 := ⟨⟨(zm 52 zq3 (by decide +kernel) rfl), (zm 54 zq3 (by decide +kernel) rfl), (zm 55 zq3 (by decide +kernel) rfl), (zm 56 zq3 (by decide +kernel) rfl), (zm 14 zq1 (by decide +kernel) rfl), (zm 57 zq3 (by decide +kernel) rfl)⟩, by decide +kernel, by decide, by decide, by decide +kernel⟩
theorem cv_B_321 : zCV "BarrierMarks" 321 "BarrierMarks$Task" ⟨"BarrierMarks$Task", "hasCredits", "()Z"⟩ prog_7_method_9_code 2 (some .boolean) 0 := ⟨⟨(zm 61 zq3 (by decide +kernel) rfl), (zm 62 zq3 (by decide +kernel) rfl), (zm 63 zq3 (by decide +kernel) rfl), (zm 4 zq1 (by decide +kernel) rfl), (zm 64 zq3 (by decide +kernel) rfl)⟩, rfl, by decide, by decide, by decide +kernel⟩
theorem fl_B_163 : ∀ ci ∈ [3], z_fld "BarrierMarks" 163 ci 1 := by
  intro ci h
  simp only [List.mem_cons, List.not_mem_nil, or_false] at h
  subst h
  exact ⟨_, _, _, "BarrierMarks$Mark", rfl, by decide, zi3, (zm 160 zq2 (by decide +kernel) rfl), Or.inl rfl⟩
theorem pf_B_131 : ∀ ci ∈ [4], z_fld "BarrierMarks" 131 ci 8 ∧ z_wrt ci 8 false "BarrierMarks" .boolean := by
  intro ci h
  refine ⟨fl_B_131 ci h, ?_⟩
  simp only [List.mem_cons, List.not_mem_nil, or_false] at h
  subst h
  exact ⟨_, _, _, zty4, rfl, rfl, fun h => absurd h (by decide), by decide +kernel, zt4, zn4⟩
theorem pf_T_33 : ∀ ci ∈ [1, 2], z_fld "BarrierMarks$Task" 33 ci 2 ∧ z_wrt ci 2 false "BarrierMarks$Task" .int := by
  intro ci h
  refine ⟨fl_T_33 ci h, ?_⟩
  simp only [List.mem_cons, List.not_mem_nil, or_false] at h
  rcases h with rfl | rfl
  · exact ⟨_, _, _, zty1, rfl, rfl, fun h => absurd h (by decide), by decide +kernel, zt1, zn1⟩
  · exact ⟨_, _, _, zty2, rfl, rfl, fun h => absurd h (by decide), by decide +kernel, zt2, zn2⟩
theorem fl_B_167 : ∀ ci ∈ [3], z_fld "BarrierMarks" 167 ci 2 := by
  intro ci h
  simp only [List.mem_cons, List.not_mem_nil, or_false] at h
  subst h
  exact ⟨_, _, _, "BarrierMarks$Mark", rfl, by decide, zi3, (zm 162 zq2 (by decide +kernel) rfl), Or.inl rfl⟩
theorem cv_B_328 : zCV "BarrierMarks" 328 "BarrierMarks$Task" ⟨"BarrierMarks$Task", "letGo", "()V"⟩ prog_7_method_6_code 2 none 0 := ⟨⟨(zm 103 zq3 (by decide +kernel) rfl), (zm 104 zq3 (by decide +kernel) rfl), (zm 105 zq3 (by decide +kernel) rfl), (zm 4 zq1 (by decide +kernel) rfl), (zm 106 zq3 (by decide +kernel) rfl)⟩, rfl, by decide, by decide, by decide +kernel⟩
theorem cv_B_305 : zCV "BarrierMarks" 305 "BarrierMarks$Task" ⟨"BarrierMarks$Task", "hasOpen", "()Z"⟩ prog_7_method_4_code 2 (some .boolean) 0 := ⟨⟨(zm 26 zq3 (by decide +kernel) rfl), (zm 27 zq3 (by decide +kernel) rfl), (zm 28 zq3 (by decide +kernel) rfl), (zm 4 zq1 (by decide +kernel) rfl), (zm 29 zq3 (by decide +kernel) rfl)⟩, rfl, by decide, by decide, by decide +kernel⟩
theorem cv_B_312 : zCV "BarrierMarks" 312 "BarrierMarks$Task" ⟨"BarrierMarks$Task", "heldFor", "()I"⟩ prog_7_method_5_code 2 (some .int) 0 := ⟨⟨(zm 91 zq3 (by decide +kernel) rfl), (zm 92 zq3 (by decide +kernel) rfl), (zm 93 zq3 (by decide +kernel) rfl), (zm 4 zq1 (by decide +kernel) rfl), (zm 94 zq3 (by decide +kernel) rfl)⟩, rfl, by decide, by decide, by decide +kernel⟩
theorem cv_B_317 : zCV "BarrierMarks" 317 "BarrierMarks" ⟨"BarrierMarks", "keepFor", "(LBarrierMarks$Task;LBarrierMarks$Mark;)I"⟩ prog_1_method_41_code 3 (some .int) 2 := ⟨⟨(zm 99 zq3 (by decide +kernel) rfl), (zm 101 zq3 (by decide +kernel) rfl), (zmp (by decide +kernel) rfl), (zm 1 zq1 (by decide +kernel) rfl), (zm 102 zq3 (by decide +kernel) rfl)⟩, rfl, by decide, by decide, by decide +kernel⟩
theorem cv_B_314 : zCV "BarrierMarks" 314 "BarrierMarks" ⟨"BarrierMarks", "endTask", "(LBarrierMarks$Task;)I"⟩ prog_1_method_42_code 3 (some .int) 1 := ⟨⟨(zm 95 zq3 (by decide +kernel) rfl), (zm 97 zq3 (by decide +kernel) rfl), (zmp (by decide +kernel) rfl), (zm 1 zq1 (by decide +kernel) rfl), (zm 98 zq3 (by decide +kernel) rfl)⟩, rfl, by decide, by decide, by decide +kernel⟩
theorem cv_B_309 : zCV "BarrierMarks" 309 "BarrierMarks" ⟨"BarrierMarks", "takeNext", "(LBarrierMarks$Task;)I"⟩ prog_1_method_43_code 7 (some .int) 1 := ⟨⟨(zm 30 zq3 (by decide +kernel) rfl), (zm 32 zq3 (by decide +kernel) rfl), (zmp (by decide +kernel) rfl), (zm 1 zq1 (by decide +kernel) rfl), (zm 33 zq3 (by decide +kernel) rfl)⟩, rfl, by decide, by decide, by decide +kernel⟩
theorem cv_B_142 : zCV "BarrierMarks" 142 "BarrierMarks" ⟨"BarrierMarks", "taskTurn", "(LBarrierMarks$Task;)I"⟩ prog_1_method_40_code 3 (some .int) 1 := ⟨⟨(zm 22 zq3 (by decide +kernel) rfl), (zm 24 zq3 (by decide +kernel) rfl), (zmp (by decide +kernel) rfl), (zm 1 zq1 (by decide +kernel) rfl), (zm 25 zq3 (by decide +kernel) rfl)⟩, rfl, by decide, by decide, by decide +kernel⟩
theorem cv_B_138 : zCV "BarrierMarks" 138 "BarrierMarks" ⟨"BarrierMarks", "keeperTurn", "()I"⟩ prog_1_method_36_code 3 (some .int) 0 := ⟨⟨(zm 224 zq2 (by decide +kernel) rfl), (zm 226 zq2 (by decide +kernel) rfl), (zmp (by decide +kernel) rfl), (zm 1 zq1 (by decide +kernel) rfl), (zm 227 zq2 (by decide +kernel) rfl)⟩, rfl, by decide, by decide, by decide +kernel⟩
theorem kl_B_148 : Cond.constantLong "BarrierMarks" 148 6364136223846793005 ∈ zTs := (zm 115 zq3 (by decide +kernel) rfl)
theorem kl_B_150 : Cond.constantLong "BarrierMarks" 150 1442695040888963407 ∈ zTs := (zm 116 zq3 (by decide +kernel) rfl)
theorem th_B_146_87 : zThr "BarrierMarks" 87 146 91 "java/lang/IllegalArgumentException" "turns are 1 to 2000" := ⟨by decide +kernel, (zm 69 zq2 (by decide +kernel) rfl), (zm 13 zq1 (by decide +kernel) rfl), by decide +kernel, by decide +kernel, tw_B_91, tx_B_91_87⟩
theorem th_B_269_66 : zThr "BarrierMarks" 66 269 70 "java/lang/IllegalStateException" "the mark is not begun" := ⟨by decide +kernel, (zm 221 zq1 (by decide +kernel) rfl), (zm 10 zq1 (by decide +kernel) rfl), by decide +kernel, by decide +kernel, tw_B_70, tx_B_70_66⟩
theorem cv_B_152 : zCV "BarrierMarks" 152 "BarrierMarks" ⟨"BarrierMarks", "begunMarkAt", "(I)LBarrierMarks$Mark;"⟩ prog_1_method_30_code 3 (some (.object "BarrierMarks$Mark")) 1 := ⟨⟨(zm 124 zq3 (by decide +kernel) rfl), (zm 126 zq3 (by decide +kernel) rfl), (zmp (by decide +kernel) rfl), (zm 1 zq1 (by decide +kernel) rfl), (zm 127 zq3 (by decide +kernel) rfl)⟩, rfl, by decide, by decide, by decide +kernel⟩
theorem th_B_170_66 : zThr "BarrierMarks" 66 170 70 "java/lang/IllegalStateException" "the task has kept, or was told so already" := ⟨by decide +kernel, (zm 221 zq1 (by decide +kernel) rfl), (zm 10 zq1 (by decide +kernel) rfl), by decide +kernel, by decide +kernel, tw_B_70, tx_B_70_66⟩
theorem th_B_175_66 : zThr "BarrierMarks" 66 175 70 "java/lang/IllegalStateException" "the task has not kept, or 200 acks wait" := ⟨by decide +kernel, (zm 221 zq1 (by decide +kernel) rfl), (zm 10 zq1 (by decide +kernel) rfl), by decide +kernel, by decide +kernel, tw_B_70, tx_B_70_66⟩
theorem th_B_271_66 : zThr "BarrierMarks" 66 271 70 "java/lang/IllegalStateException" "the mark is not complete" := ⟨by decide +kernel, (zm 221 zq1 (by decide +kernel) rfl), (zm 10 zq1 (by decide +kernel) rfl), by decide +kernel, by decide +kernel, tw_B_70, tx_B_70_66⟩
theorem fl_T_54 : ∀ ci ∈ [3], z_fld "BarrierMarks$Task" 54 ci 4 := by
  intro ci h
  simp only [List.mem_cons, List.not_mem_nil, or_false] at h
  subst h
  exact ⟨_, _, _, "BarrierMarks$Mark", rfl, by decide, zi3, (zm 166 zq2 (by decide +kernel) rfl), Or.inl rfl⟩
theorem fl_T_60 : ∀ ci ∈ [4], z_fld "BarrierMarks$Task" 60 ci 6 := by
  intro ci h
  simp only [List.mem_cons, List.not_mem_nil, or_false] at h
  subst h
  exact ⟨_, _, _, "BarrierMarks$Task", rfl, by decide, zi4, (zm 77 zq1 (by decide +kernel) rfl), Or.inl rfl⟩
theorem pf_T_60 : ∀ ci ∈ [4], z_fld "BarrierMarks$Task" 60 ci 6 ∧ z_wrt ci 6 false "BarrierMarks$Task" .long := by
  intro ci h
  refine ⟨fl_T_60 ci h, ?_⟩
  simp only [List.mem_cons, List.not_mem_nil, or_false] at h
  subst h
  exact ⟨_, _, _, zty4, rfl, rfl, fun h => absurd h (by decide), by decide +kernel, zt4, zn4⟩
theorem fl_T_64 : ∀ ci ∈ [3], z_fld "BarrierMarks$Task" 64 ci 5 := by
  intro ci h
  simp only [List.mem_cons, List.not_mem_nil, or_false] at h
  subst h
  exact ⟨_, _, _, "BarrierMarks$Mark", rfl, by decide, zi3, (zm 169 zq2 (by decide +kernel) rfl), Or.inl rfl⟩
theorem fl_T_68 : ∀ ci ∈ [4], z_fld "BarrierMarks$Task" 68 ci 7 := by
  intro ci h
  simp only [List.mem_cons, List.not_mem_nil, or_false] at h
  subst h
  exact ⟨_, _, _, "BarrierMarks$Task", rfl, by decide, zi4, (zm 80 zq1 (by decide +kernel) rfl), Or.inl rfl⟩
theorem pf_T_68 : ∀ ci ∈ [4], z_fld "BarrierMarks$Task" 68 ci 7 ∧ z_wrt ci 7 false "BarrierMarks$Task" .int := by
  intro ci h
  refine ⟨fl_T_68 ci h, ?_⟩
  simp only [List.mem_cons, List.not_mem_nil, or_false] at h
  subst h
  exact ⟨_, _, _, zty4, rfl, rfl, fun h => absurd h (by decide), by decide +kernel, zt4, zn4⟩
theorem fl_T_70 : ∀ ci ∈ [3], z_fld "BarrierMarks$Task" 70 ci 6 := by
  intro ci h
  simp only [List.mem_cons, List.not_mem_nil, or_false] at h
  subst h
  exact ⟨_, _, _, "BarrierMarks$Mark", rfl, by decide, zi3, (zm 172 zq2 (by decide +kernel) rfl), Or.inl rfl⟩
theorem fl_T_73 : ∀ ci ∈ [4], z_fld "BarrierMarks$Task" 73 ci 8 := by
  intro ci h
  simp only [List.mem_cons, List.not_mem_nil, or_false] at h
  subst h
  exact ⟨_, _, _, "BarrierMarks$Task", rfl, by decide, zi4, (zm 84 zq1 (by decide +kernel) rfl), Or.inl rfl⟩
theorem pf_T_73 : ∀ ci ∈ [4], z_fld "BarrierMarks$Task" 73 ci 8 ∧ z_wrt ci 8 false "BarrierMarks$Task" .boolean := by
  intro ci h
  refine ⟨fl_T_73 ci h, ?_⟩
  simp only [List.mem_cons, List.not_mem_nil, or_false] at h
  subst h
  exact ⟨_, _, _, zty4, rfl, rfl, fun h => absurd h (by decide), by decide +kernel, zt4, zn4⟩
theorem ca_B_209_S : zCA "BarrierMarks" 209 "BarrierMarks$Source" "BarrierMarks$Channel" ⟨"BarrierMarks$Channel", "left", "()I"⟩ ⟨"BarrierMarks$Source", "left", "()I"⟩ prog_6_method_7_code 1 (some .int) 0 := ⟨⟨(zm 178 zq3 (by decide +kernel) rfl), (zm 180 zq3 (by decide +kernel) rfl), (zm 184 zq3 (by decide +kernel) rfl), (zm 185 zq3 (by decide +kernel) rfl), (zm 12 zq1 (by decide +kernel) rfl), (zm 186 zq3 (by decide +kernel) rfl)⟩, by decide +kernel, by decide, by decide, by decide +kernel⟩
theorem ca_B_209_L : zCA "BarrierMarks" 209 "BarrierMarks$Line" "BarrierMarks$Channel" ⟨"BarrierMarks$Channel", "left", "()I"⟩ ⟨"BarrierMarks$Line", "left", "()I"⟩ prog_4_method_6_code 1 (some .int) 0 := ⟨⟨(zm 178 zq3 (by decide +kernel) rfl), (zm 180 zq3 (by decide +kernel) rfl), (zm 181 zq3 (by decide +kernel) rfl), (zm 182 zq3 (by decide +kernel) rfl), (zm 14 zq1 (by decide +kernel) rfl), (zm 183 zq3 (by decide +kernel) rfl)⟩, by decide +kernel, by decide, by decide, by decide +kernel⟩
theorem ca_B_193_S : zCA "BarrierMarks" 193 "BarrierMarks$Source" "BarrierMarks$Channel" ⟨"BarrierMarks$Channel", "goBack", "(I)V"⟩ ⟨"BarrierMarks$Source", "goBack", "(I)V"⟩ prog_6_method_10_code 2 none 1 := ⟨⟨(zm 165 zq3 (by decide +kernel) rfl), (zm 167 zq3 (by decide +kernel) rfl), (zm 171 zq3 (by decide +kernel) rfl), (zm 172 zq3 (by decide +kernel) rfl), (zm 12 zq1 (by decide +kernel) rfl), (zm 173 zq3 (by decide +kernel) rfl)⟩, by decide +kernel, by decide, by decide, by decide +kernel⟩
theorem ca_B_193_L : zCA "BarrierMarks" 193 "BarrierMarks$Line" "BarrierMarks$Channel" ⟨"BarrierMarks$Channel", "goBack", "(I)V"⟩ ⟨"BarrierMarks$Line", "goBack", "(I)V"⟩ prog_4_method_9_code 2 none 1 := ⟨⟨(zm 165 zq3 (by decide +kernel) rfl), (zm 167 zq3 (by decide +kernel) rfl), (zm 168 zq3 (by decide +kernel) rfl), (zm 169 zq3 (by decide +kernel) rfl), (zm 14 zq1 (by decide +kernel) rfl), (zm 170 zq3 (by decide +kernel) rfl)⟩, by decide +kernel, by decide, by decide, by decide +kernel⟩
theorem cv_B_201 : zCV "BarrierMarks" 201 "BarrierMarks" ⟨"BarrierMarks", "hasEnded", "(I)Z"⟩ prog_1_method_35_code 2 (some .boolean) 1 := ⟨⟨(zm 174 zq3 (by decide +kernel) rfl), (zm 176 zq3 (by decide +kernel) rfl), (zmp (by decide +kernel) rfl), (zm 1 zq1 (by decide +kernel) rfl), (zm 177 zq3 (by decide +kernel) rfl)⟩, rfl, by decide, by decide, by decide +kernel⟩
theorem cv_B_189 : zCV "BarrierMarks" 189 "BarrierMarks$Task" ⟨"BarrierMarks$Task", "goBack", "(LBarrierMarks$Mark;)V"⟩ prog_7_method_11_code 2 none 1 := ⟨⟨(zm 161 zq3 (by decide +kernel) rfl), (zm 162 zq3 (by decide +kernel) rfl), (zm 163 zq3 (by decide +kernel) rfl), (zm 4 zq1 (by decide +kernel) rfl), (zm 164 zq3 (by decide +kernel) rfl)⟩, rfl, by decide, by decide, by decide +kernel⟩
theorem cv_B_186 : zCV "BarrierMarks" 186 "BarrierMarks$AckRow" ⟨"BarrierMarks$AckRow", "clear", "()V"⟩ prog_2_method_6_code 1 none 0 := ⟨⟨(zm 157 zq3 (by decide +kernel) rfl), (zm 158 zq3 (by decide +kernel) rfl), (zm 159 zq3 (by decide +kernel) rfl), (zm 2 zq1 (by decide +kernel) rfl), (zm 160 zq3 (by decide +kernel) rfl)⟩, rfl, by decide, by decide, by decide +kernel⟩
theorem cv_B_180 : zCV "BarrierMarks" 180 "BarrierMarks" ⟨"BarrierMarks", "completeMarkAt", "(I)LBarrierMarks$Mark;"⟩ prog_1_method_31_code 3 (some (.object "BarrierMarks$Mark")) 1 := ⟨⟨(zm 152 zq3 (by decide +kernel) rfl), (zm 154 zq3 (by decide +kernel) rfl), (zmp (by decide +kernel) rfl), (zm 1 zq1 (by decide +kernel) rfl), (zm 155 zq3 (by decide +kernel) rfl)⟩, rfl, by decide, by decide, by decide +kernel⟩
theorem th_B_219_87 : zThr "BarrierMarks" 87 219 91 "java/lang/IllegalArgumentException" "what is 0 or 1" := ⟨by decide +kernel, (zm 69 zq2 (by decide +kernel) rfl), (zm 13 zq1 (by decide +kernel) rfl), by decide +kernel, by decide +kernel, tw_B_91, tx_B_91_87⟩
theorem th_B_273_66 : zThr "BarrierMarks" 66 273 70 "java/lang/IllegalStateException" "the task has not kept for the mark" := ⟨by decide +kernel, (zm 221 zq1 (by decide +kernel) rfl), (zm 10 zq1 (by decide +kernel) rfl), by decide +kernel, by decide +kernel, tw_B_70, tx_B_70_66⟩
theorem cv_B_221 : zCV "BarrierMarks" 221 "BarrierMarks" ⟨"BarrierMarks", "markKeptBy", "(II)LBarrierMarks$Mark;"⟩ prog_1_method_32_code 4 (some (.object "BarrierMarks$Mark")) 2 := ⟨⟨(zm 209 zq3 (by decide +kernel) rfl), (zm 211 zq3 (by decide +kernel) rfl), (zmp (by decide +kernel) rfl), (zm 1 zq1 (by decide +kernel) rfl), (zm 212 zq3 (by decide +kernel) rfl)⟩, rfl, by decide, by decide, by decide +kernel⟩
theorem fl_B_225 : ∀ ci ∈ [3], z_fld "BarrierMarks" 225 ci 4 := by
  intro ci h
  simp only [List.mem_cons, List.not_mem_nil, or_false] at h
  subst h
  exact ⟨_, _, _, "BarrierMarks$Mark", rfl, by decide, zi3, (zm 167 zq2 (by decide +kernel) rfl), Or.inl rfl⟩
theorem fl_B_228 : ∀ ci ∈ [3], z_fld "BarrierMarks" 228 ci 5 := by
  intro ci h
  simp only [List.mem_cons, List.not_mem_nil, or_false] at h
  subst h
  exact ⟨_, _, _, "BarrierMarks$Mark", rfl, by decide, zi3, (zm 170 zq2 (by decide +kernel) rfl), Or.inl rfl⟩
theorem th_B_242_240 : zThr "BarrierMarks" 240 242 244 "java/lang/IndexOutOfBoundsException" "the channel is no source" := ⟨by decide +kernel, (zm 153 zq1 (by decide +kernel) rfl), (zm 9 zq1 (by decide +kernel) rfl), by decide +kernel, by decide +kernel, tw_B_244, tx_B_244_240⟩
theorem fl_B_237 : ∀ ci ∈ [1], z_fld "BarrierMarks" 237 ci 5 := by
  intro ci h
  simp only [List.mem_cons, List.not_mem_nil, or_false] at h
  subst h
  exact ⟨_, _, _, "BarrierMarks$Source", rfl, by decide, zi1, (zm 8 zq2 (by decide +kernel) rfl), Or.inl rfl⟩
theorem fl_B_46 : ∀ ci ∈ [5], z_fld "BarrierMarks" 46 ci 4 := by
  intro ci h
  simp only [List.mem_cons, List.not_mem_nil, or_false] at h
  subst h
  exact ⟨_, _, _, "BarrierMarks", rfl, by decide, zi5, (zm 108 zq1 (by decide +kernel) rfl), Or.inl rfl⟩
theorem fl_B_50 : ∀ ci ∈ [5], z_fld "BarrierMarks" 50 ci 5 := by
  intro ci h
  simp only [List.mem_cons, List.not_mem_nil, or_false] at h
  subst h
  exact ⟨_, _, _, "BarrierMarks", rfl, by decide, zi5, (zm 109 zq1 (by decide +kernel) rfl), Or.inl rfl⟩
theorem fl_B_356 : ∀ ci ∈ [1], z_fld "BarrierMarks" 356 ci 6 := by
  intro ci h
  simp only [List.mem_cons, List.not_mem_nil, or_false] at h
  subst h
  exact ⟨_, _, _, "BarrierMarks$Source", rfl, by decide, zi1, (zm 10 zq2 (by decide +kernel) rfl), Or.inl rfl⟩
theorem cv_B_352 : zCV "BarrierMarks" 352 "BarrierMarks" ⟨"BarrierMarks", "carryInto", "(LBarrierMarks$Task;I)V"⟩ prog_1_method_45_code 10 none 2 := ⟨⟨(zm 13 zq4 (by decide +kernel) rfl), (zm 15 zq4 (by decide +kernel) rfl), (zmp (by decide +kernel) rfl), (zm 1 zq1 (by decide +kernel) rfl), (zm 16 zq4 (by decide +kernel) rfl)⟩, rfl, by decide, by decide, by decide +kernel⟩
theorem cv_B_245 : zCV "BarrierMarks" 245 "BarrierMarks" ⟨"BarrierMarks", "carryAlone", "(I)V"⟩ prog_1_method_44_code 4 none 1 := ⟨⟨(zm 9 zq4 (by decide +kernel) rfl), (zm 11 zq4 (by decide +kernel) rfl), (zmp (by decide +kernel) rfl), (zm 1 zq1 (by decide +kernel) rfl), (zm 12 zq4 (by decide +kernel) rfl)⟩, rfl, by decide, by decide, by decide +kernel⟩
theorem io_2 : ∀ cj ∈ [1, 2], ∃ q, zcl[cj]? = some q ∧ ((cj = 2 ∧ (q.1, "BarrierMarks$Line") ∈ zcast) ∨ (cj ≠ 2 ∧ (q.1, "BarrierMarks$Line") ∈ znc)) := by
  intro cj h
  simp only [List.mem_cons, List.not_mem_nil, or_false] at h
  rcases h with rfl | rfl
  · exact ⟨_, rfl, Or.inr ⟨by decide, by decide +kernel⟩⟩
  · exact ⟨_, rfl, Or.inl ⟨rfl, by decide +kernel⟩⟩
theorem th_B_265_240 : zThr "BarrierMarks" 240 265 244 "java/lang/IndexOutOfBoundsException" "a source, or no such thing" := ⟨by decide +kernel, (zm 153 zq1 (by decide +kernel) rfl), (zm 9 zq1 (by decide +kernel) rfl), by decide +kernel, by decide +kernel, tw_B_244, tx_B_244_240⟩
theorem ck_2 : ∀ cj ∈ [2], ∃ q, zcl[cj]? = some q ∧ (q.1, "BarrierMarks$Line") ∈ zcast := by
  intro cj h
  simp only [List.mem_cons, List.not_mem_nil, or_false] at h
  subst h
  exact ⟨_, rfl, by decide +kernel⟩
theorem fl_B_264 : ∀ ci ∈ [2], z_fld "BarrierMarks" 264 ci 6 := by
  intro ci h
  simp only [List.mem_cons, List.not_mem_nil, or_false] at h
  subst h
  exact ⟨_, _, _, "BarrierMarks$Line", rfl, by decide, zi2, (zm 97 zq2 (by decide +kernel) rfl), Or.inl rfl⟩
theorem cv_B_248 : zCV "BarrierMarks" 248 "BarrierMarks" ⟨"BarrierMarks", "lineWith", "(II)LBarrierMarks$Line;"⟩ prog_1_method_28_code 5 (some (.object "BarrierMarks$Line")) 2 := ⟨⟨(zm 38 zq4 (by decide +kernel) rfl), (zm 40 zq4 (by decide +kernel) rfl), (zmp (by decide +kernel) rfl), (zm 1 zq1 (by decide +kernel) rfl), (zm 41 zq4 (by decide +kernel) rfl)⟩, rfl, by decide, by decide, by decide +kernel⟩
theorem fl_B_252 : ∀ ci ∈ [2], z_fld "BarrierMarks" 252 ci 4 := by
  intro ci h
  simp only [List.mem_cons, List.not_mem_nil, or_false] at h
  subst h
  exact ⟨_, _, _, "BarrierMarks$Line", rfl, by decide, zi2, (zm 92 zq2 (by decide +kernel) rfl), Or.inl rfl⟩
theorem fl_B_255 : ∀ ci ∈ [2], z_fld "BarrierMarks" 255 ci 5 := by
  intro ci h
  simp only [List.mem_cons, List.not_mem_nil, or_false] at h
  subst h
  exact ⟨_, _, _, "BarrierMarks$Line", rfl, by decide, zi2, (zm 94 zq2 (by decide +kernel) rfl), Or.inl rfl⟩
theorem th_B_258_87 : zThr "BarrierMarks" 87 258 91 "java/lang/IllegalArgumentException" "what is 0 to 3" := ⟨by decide +kernel, (zm 69 zq2 (by decide +kernel) rfl), (zm 13 zq1 (by decide +kernel) rfl), by decide +kernel, by decide +kernel, tw_B_91, tx_B_91_87⟩
end
section
theorem dK_init_0 : decode prog_2_method_1_code 0 = .ok (.aload_n 0, 1) := by decide +kernel
theorem dK_init_1 : decode prog_2_method_1_code 1 = .ok (.invokespecial 3, 3) := by decide +kernel
theorem dK_init_4 : decode prog_2_method_1_code 4 = .ok (.aload_n 0, 1) := by decide +kernel
theorem dK_init_5 : decode prog_2_method_1_code 5 = .ok (.sipush 520, 3) := by decide +kernel
theorem dK_init_8 : decode prog_2_method_1_code 8 = .ok (.newarray .int, 2) := by decide +kernel
theorem dK_init_10 : decode prog_2_method_1_code 10 = .ok (.putfield 9, 3) := by decide +kernel
theorem dK_init_13 : decode prog_2_method_1_code 13 = .ok (.aload_n 0, 1) := by decide +kernel
theorem dK_init_14 : decode prog_2_method_1_code 14 = .ok (.sipush 520, 3) := by decide +kernel
theorem dK_init_17 : decode prog_2_method_1_code 17 = .ok (.newarray .int, 2) := by decide +kernel
theorem dK_init_19 : decode prog_2_method_1_code 19 = .ok (.putfield 15, 3) := by decide +kernel
theorem dK_init_22 : decode prog_2_method_1_code 22 = .ok (.return_, 1) := by decide +kernel
theorem dK_add_0 : decode prog_2_method_2_code 0 = .ok (.aload_n 0, 1) := by decide +kernel
theorem dK_add_1 : decode prog_2_method_2_code 1 = .ok (.getfield 18, 3) := by decide +kernel
theorem dK_add_4 : decode prog_2_method_2_code 4 = .ok (.sipush 520, 3) := by decide +kernel
theorem dK_add_7 : decode prog_2_method_2_code 7 = .ok (.if_icmp .ge 50, 3) := by decide +kernel
theorem dK_add_10 : decode prog_2_method_2_code 10 = .ok (.aload_n 0, 1) := by decide +kernel
theorem dK_add_11 : decode prog_2_method_2_code 11 = .ok (.getfield 22, 3) := by decide +kernel
theorem dK_add_14 : decode prog_2_method_2_code 14 = .ok (.aload_n 0, 1) := by decide +kernel
theorem dK_add_15 : decode prog_2_method_2_code 15 = .ok (.getfield 18, 3) := by decide +kernel
theorem dK_add_18 : decode prog_2_method_2_code 18 = .ok (.iadd, 1) := by decide +kernel
theorem dK_add_19 : decode prog_2_method_2_code 19 = .ok (.istore_n 3, 1) := by decide +kernel
theorem dK_add_20 : decode prog_2_method_2_code 20 = .ok (.iload_n 3, 1) := by decide +kernel
theorem dK_add_21 : decode prog_2_method_2_code 21 = .ok (.sipush 520, 3) := by decide +kernel
theorem dK_add_24 : decode prog_2_method_2_code 24 = .ok (.if_icmp .lt 9, 3) := by decide +kernel
theorem dK_add_27 : decode prog_2_method_2_code 27 = .ok (.iinc 3 (-520), 6) := by decide +kernel
theorem dK_add_33 : decode prog_2_method_2_code 33 = .ok (.aload_n 0, 1) := by decide +kernel
theorem dK_add_34 : decode prog_2_method_2_code 34 = .ok (.getfield 9, 3) := by decide +kernel
theorem dK_add_37 : decode prog_2_method_2_code 37 = .ok (.iload_n 3, 1) := by decide +kernel
theorem dK_add_38 : decode prog_2_method_2_code 38 = .ok (.iload_n 1, 1) := by decide +kernel
theorem dK_add_39 : decode prog_2_method_2_code 39 = .ok (.iastore, 1) := by decide +kernel
theorem dK_add_40 : decode prog_2_method_2_code 40 = .ok (.aload_n 0, 1) := by decide +kernel
theorem dK_add_41 : decode prog_2_method_2_code 41 = .ok (.getfield 15, 3) := by decide +kernel
theorem dK_add_44 : decode prog_2_method_2_code 44 = .ok (.iload_n 3, 1) := by decide +kernel
theorem dK_add_45 : decode prog_2_method_2_code 45 = .ok (.iload_n 2, 1) := by decide +kernel
theorem dK_add_46 : decode prog_2_method_2_code 46 = .ok (.iastore, 1) := by decide +kernel
theorem dK_add_47 : decode prog_2_method_2_code 47 = .ok (.aload_n 0, 1) := by decide +kernel
theorem dK_add_48 : decode prog_2_method_2_code 48 = .ok (.dup, 1) := by decide +kernel
theorem dK_add_49 : decode prog_2_method_2_code 49 = .ok (.getfield 18, 3) := by decide +kernel
theorem dK_add_52 : decode prog_2_method_2_code 52 = .ok (.iconst 1, 1) := by decide +kernel
theorem dK_add_53 : decode prog_2_method_2_code 53 = .ok (.iadd, 1) := by decide +kernel
theorem dK_add_54 : decode prog_2_method_2_code 54 = .ok (.putfield 18, 3) := by decide +kernel
theorem dK_add_57 : decode prog_2_method_2_code 57 = .ok (.return_, 1) := by decide +kernel
theorem dK_firstMark_0 : decode prog_2_method_3_code 0 = .ok (.aload_n 0, 1) := by decide +kernel
theorem dK_firstMark_1 : decode prog_2_method_3_code 1 = .ok (.getfield 9, 3) := by decide +kernel
theorem dK_firstMark_4 : decode prog_2_method_3_code 4 = .ok (.aload_n 0, 1) := by decide +kernel
theorem dK_firstMark_5 : decode prog_2_method_3_code 5 = .ok (.getfield 22, 3) := by decide +kernel
theorem dK_firstMark_8 : decode prog_2_method_3_code 8 = .ok (.iaload, 1) := by decide +kernel
theorem dK_firstMark_9 : decode prog_2_method_3_code 9 = .ok (.ireturn, 1) := by decide +kernel
theorem dK_firstTask_0 : decode prog_2_method_4_code 0 = .ok (.aload_n 0, 1) := by decide +kernel
theorem dK_firstTask_1 : decode prog_2_method_4_code 1 = .ok (.getfield 15, 3) := by decide +kernel
theorem dK_firstTask_4 : decode prog_2_method_4_code 4 = .ok (.aload_n 0, 1) := by decide +kernel
theorem dK_firstTask_5 : decode prog_2_method_4_code 5 = .ok (.getfield 22, 3) := by decide +kernel
theorem dK_firstTask_8 : decode prog_2_method_4_code 8 = .ok (.iaload, 1) := by decide +kernel
theorem dK_firstTask_9 : decode prog_2_method_4_code 9 = .ok (.ireturn, 1) := by decide +kernel
theorem dK_dropFirst_0 : decode prog_2_method_5_code 0 = .ok (.aload_n 0, 1) := by decide +kernel
theorem dK_dropFirst_1 : decode prog_2_method_5_code 1 = .ok (.getfield 18, 3) := by decide +kernel
theorem dK_dropFirst_4 : decode prog_2_method_5_code 4 = .ok (.ifCond .le 39, 3) := by decide +kernel
theorem dK_dropFirst_7 : decode prog_2_method_5_code 7 = .ok (.aload_n 0, 1) := by decide +kernel
theorem dK_dropFirst_8 : decode prog_2_method_5_code 8 = .ok (.dup, 1) := by decide +kernel
theorem dK_dropFirst_9 : decode prog_2_method_5_code 9 = .ok (.getfield 18, 3) := by decide +kernel
theorem dK_dropFirst_12 : decode prog_2_method_5_code 12 = .ok (.iconst 1, 1) := by decide +kernel
theorem dK_dropFirst_13 : decode prog_2_method_5_code 13 = .ok (.isub, 1) := by decide +kernel
theorem dK_dropFirst_14 : decode prog_2_method_5_code 14 = .ok (.putfield 18, 3) := by decide +kernel
theorem dK_dropFirst_17 : decode prog_2_method_5_code 17 = .ok (.aload_n 0, 1) := by decide +kernel
theorem dK_dropFirst_18 : decode prog_2_method_5_code 18 = .ok (.aload_n 0, 1) := by decide +kernel
theorem dK_dropFirst_19 : decode prog_2_method_5_code 19 = .ok (.getfield 22, 3) := by decide +kernel
theorem dK_dropFirst_22 : decode prog_2_method_5_code 22 = .ok (.iconst 1, 1) := by decide +kernel
theorem dK_dropFirst_23 : decode prog_2_method_5_code 23 = .ok (.iadd, 1) := by decide +kernel
theorem dK_dropFirst_24 : decode prog_2_method_5_code 24 = .ok (.sipush 520, 3) := by decide +kernel
theorem dK_dropFirst_27 : decode prog_2_method_5_code 27 = .ok (.if_icmp .ge 12, 3) := by decide +kernel
theorem dK_dropFirst_30 : decode prog_2_method_5_code 30 = .ok (.aload_n 0, 1) := by decide +kernel
theorem dK_dropFirst_31 : decode prog_2_method_5_code 31 = .ok (.getfield 22, 3) := by decide +kernel
theorem dK_dropFirst_34 : decode prog_2_method_5_code 34 = .ok (.iconst 1, 1) := by decide +kernel
theorem dK_dropFirst_35 : decode prog_2_method_5_code 35 = .ok (.iadd, 1) := by decide +kernel
theorem dK_dropFirst_36 : decode prog_2_method_5_code 36 = .ok (.goto 4, 3) := by decide +kernel
theorem dK_dropFirst_39 : decode prog_2_method_5_code 39 = .ok (.iconst 0, 1) := by decide +kernel
theorem dK_dropFirst_40 : decode prog_2_method_5_code 40 = .ok (.putfield 22, 3) := by decide +kernel
theorem dK_dropFirst_43 : decode prog_2_method_5_code 43 = .ok (.return_, 1) := by decide +kernel
theorem dK_clear_0 : decode prog_2_method_6_code 0 = .ok (.aload_n 0, 1) := by decide +kernel
theorem dK_clear_1 : decode prog_2_method_6_code 1 = .ok (.iconst 0, 1) := by decide +kernel
theorem dK_clear_2 : decode prog_2_method_6_code 2 = .ok (.putfield 22, 3) := by decide +kernel
theorem dK_clear_5 : decode prog_2_method_6_code 5 = .ok (.aload_n 0, 1) := by decide +kernel
theorem dK_clear_6 : decode prog_2_method_6_code 6 = .ok (.iconst 0, 1) := by decide +kernel
theorem dK_clear_7 : decode prog_2_method_6_code 7 = .ok (.putfield 18, 3) := by decide +kernel
theorem dK_clear_10 : decode prog_2_method_6_code 10 = .ok (.return_, 1) := by decide +kernel
end
section
/-! BarrierMarks$AckRow.<init>()V -/
def fK_init (V : zV) (n : Nat) (a0 : Nat) : Option zR :=
    znwa V n 0 520 (520 : Int32) (.inl (fun _ => 0)) fun t1 V n =>
    (zpR V (some a0) [0] 0 (some t1)).bind fun V =>
    znwa V n 0 520 (520 : Int32) (.inl (fun _ => 0)) fun t2 V n =>
    (zpR V (some a0) [0] 1 (some t2)).bind fun V =>
    zrV V n
set_option maxHeartbeats 4000000 in
set_option maxRecDepth 100000 in
theorem bK_init {x : zX} {w : zR} (C : zC x prog_2_method_1_code "BarrierMarks$AckRow" "<init>" 1 1 12 none) (M : zM x 2 1040) : ∀ (V : zV) (n : Nat) (a0 : Nat), fK_init V n a0 = some w → zZ x 1 0 0 w V n 0 [(0, va_rf (some a0))] [] := by
  intro V n a0 h
  unfold fK_init at h
  refine z_aload_n C 0 dK_init_0 rfl rfl ?_
  refine z_objInit C ol_K_3 oi_ oc_ (by decide) (by first | decide | simp [zrfcat, Value.category]) dK_init_1 ?_
  refine z_aload_n C 0 dK_init_4 rfl rfl ?_
  refine z_sipush (v := 520) C dK_init_5 (by decide) ?_
  refine z_newaK (at9 := .int) C M rfl rfl na_0 (fun _ _ => rfl) (fun _ _ => rfl) (by decide) (by decide) (by decide) dK_init_8 h (fun t1 V n h => ?_)
  refine z_putR C pf_K_9 zfitA (fun _ => rfl) dK_init_10 h (fun V h => ?_)
  refine z_aload_n C 0 dK_init_13 rfl rfl ?_
  refine z_sipush (v := 520) C dK_init_14 (by decide) ?_
  refine z_newaK (at9 := .int) C M rfl rfl na_0 (fun _ _ => rfl) (fun _ _ => rfl) (by decide) (by decide) (by decide) dK_init_17 h (fun t2 V n h => ?_)
  refine z_putR C pf_K_15 zfitA (fun _ => rfl) dK_init_19 h (fun V h => ?_)
  exact z_vret C M (by decide) (by decide) dK_init_22 h
theorem mK_init {l : Launch} {D : va_G} {dA : Nat → ClassId} {V : zV} {n : Nat} (hl : l.stackTraces = false) {a0 : Nat} {w : zR} (h : fK_init V n a0 = some w) : z_Met l ⟨"BarrierMarks$AckRow", "<init>", "()V"⟩ prog_2_method_1_code 1 none 1 12 2 1040 [.ref a0] D dA V n w := z_ofZ hl (by decide) (Nat.le_of_ble_eq_true rfl) (fun x C M => bK_init C M V n a0 h)
/-! BarrierMarks$AckRow.add(II)V -/
def fK_add_33 (V : zV) (n : Nat) (a0 : Nat) (x1 : Int32) (x2 : Int32) (x3 : Int32) : Option zR :=
    (zgR V (some a0) [0] 0).bind fun t1 =>
    (zsI V t1 0 x3 x1).bind fun V =>
    (zgR V (some a0) [0] 1).bind fun t2 =>
    (zsI V t2 0 x3 x2).bind fun V =>
    (zgI V (some a0) [0] 3).bind fun t3 =>
    (zpI V (some a0) [0] 3 ((t3 + (1 : Int32)))).bind fun V =>
    zrV V n
set_option maxHeartbeats 4000000 in
set_option maxRecDepth 100000 in
theorem bK_add_33 {x : zX} {w : zR} (C : zC x prog_2_method_2_code "BarrierMarks$AckRow" "add" 4 0 0 none) (M : zM x (zc w) (zs w)) : ∀ (V : zV) (n : Nat) (a0 : Nat) (x1 : Int32) (x2 : Int32) (x3 : Int32), fK_add_33 V n a0 x1 x2 x3 = some w → zZ x 4 0 0 w V n 33 [(0, va_rf (some a0)), (1, .int x1), (2, .int x2), (3, .int x3)] [] := by
  intro V n a0 x1 x2 x3 h
  unfold fK_add_33 at h
  refine z_aload_n C 0 dK_add_33 rfl rfl ?_
  refine z_getR C fl_K_9 dK_add_34 h (fun t1 h => ?_)
  refine z_iload_n C 3 dK_add_37 rfl rfl ?_
  refine z_iload_n C 1 dK_add_38 rfl rfl ?_
  refine z_iast C rfl dK_add_39 h (fun V h => ?_)
  refine z_aload_n C 0 dK_add_40 rfl rfl ?_
  refine z_getR C fl_K_15 dK_add_41 h (fun t2 h => ?_)
  refine z_iload_n C 3 dK_add_44 rfl rfl ?_
  refine z_iload_n C 2 dK_add_45 rfl rfl ?_
  refine z_iast C rfl dK_add_46 h (fun V h => ?_)
  refine z_aload_n C 0 dK_add_47 rfl rfl ?_
  refine z_dup C dK_add_48 (zrfcat _) ?_
  refine z_getI C fl_K_18 dK_add_49 h (fun t3 h => ?_)
  refine z_iconst (v := 1) C dK_add_52 (by decide) ?_
  refine z_iadd C dK_add_53 ?_
  refine z_putI C pf_K_18 (fun h => absurd h (by decide)) dK_add_54 h (fun V h => ?_)
  exact z_vret C M (Nat.zero_le _) (Nat.zero_le _) dK_add_57 h
def fK_add (V : zV) (n : Nat) (a0 : Nat) (x1 : Int32) (x2 : Int32) : Option zR :=
    (zgI V (some a0) [0] 3).bind fun t1 =>
    if (520 : Int32) ≤ t1 then (
    zrV V n) else (
    (zgI V (some a0) [0] 2).bind fun t2 =>
    (zgI V (some a0) [0] 3).bind fun t3 =>
    if (t2 + t3) < (520 : Int32) then (
    fK_add_33 V n a0 x1 x2 (t2 + t3)) else (
    fK_add_33 V n a0 x1 x2 (((t2 + t3) + (-520)))))
set_option maxHeartbeats 4000000 in
set_option maxRecDepth 100000 in
theorem bK_add {x : zX} {w : zR} (C : zC x prog_2_method_2_code "BarrierMarks$AckRow" "add" 4 0 0 none) (M : zM x (zc w) (zs w)) : ∀ (V : zV) (n : Nat) (a0 : Nat) (x1 : Int32) (x2 : Int32), fK_add V n a0 x1 x2 = some w → zZ x 4 0 0 w V n 0 [(0, va_rf (some a0)), (1, .int x1), (2, .int x2)] [] := by
  intro V n a0 x1 x2 h
  unfold fK_add at h
  refine z_aload_n C 0 dK_add_0 rfl rfl ?_
  refine z_getI C fl_K_18 dK_add_1 h (fun t1 h => ?_)
  refine z_sipush (v := 520) C dK_add_4 (by decide) ?_
  refine z_icmp_ge C 57 dK_add_7 (by decide) h (fun h => ?_) (fun h => ?_)
  · exact z_vret C M (Nat.zero_le _) (Nat.zero_le _) dK_add_57 h
  · refine z_aload_n C 0 dK_add_10 rfl rfl ?_
    refine z_getI C fl_K_22 dK_add_11 h (fun t2 h => ?_)
    refine z_aload_n C 0 dK_add_14 rfl rfl ?_
    refine z_getI C fl_K_18 dK_add_15 h (fun t3 h => ?_)
    refine z_iadd C dK_add_18 ?_
    refine z_istore_n (lv' := [(3, .int (t2 + t3)), (0, va_rf (some a0)), (1, .int x1), (2, .int x2)]) C dK_add_19 rfl (by decide) rfl ?_
    refine z_iload_n C 0 dK_add_20 rfl rfl ?_
    refine z_sipush (v := 520) C dK_add_21 (by decide) ?_
    refine z_icmp_lt C 33 dK_add_24 (by decide) h (fun h => ?_) (fun h => ?_)
    · refine z_sub [1, 2, 3, 0] rfl ?_
      exact bK_add_33 C M V n a0 x1 x2 (t2 + t3) h
    · refine z_iinc_w (lv' := [(3, .int ((t2 + t3) + (-520))), (0, va_rf (some a0)), (1, .int x1), (2, .int x2)]) C 0 dK_add_27 rfl rfl (by decide) rfl ?_
      refine z_sub [1, 2, 3, 0] rfl ?_
      exact bK_add_33 C M V n a0 x1 x2 (((t2 + t3) + (-520))) h
theorem mK_add {l : Launch} {D : va_G} {dA : Nat → ClassId} {V : zV} {n : Nat} (hl : l.stackTraces = false) {a0 : Nat} {x1 : Int32} {x2 : Int32} {w : zR} (h : fK_add V n a0 x1 x2 = some w) : z_Met l ⟨"BarrierMarks$AckRow", "add", "(II)V"⟩ prog_2_method_2_code 4 none 0 0 (zc w) (zs w) [.ref a0, .int x1, .int x2] D dA V n w := z_ofZ hl (by decide) (Nat.le_of_ble_eq_true rfl) (fun x C M => bK_add C M V n a0 x1 x2 h)
/-! BarrierMarks$AckRow.firstMark()I -/
def fK_firstMark (V : zV) (n : Nat) (a0 : Nat) : Option zR :=
    (zgR V (some a0) [0] 0).bind fun t1 =>
    (zgI V (some a0) [0] 2).bind fun t2 =>
    (zaI V t1 0 t2).bind fun t3 =>
    zrI t3 V n
set_option maxHeartbeats 4000000 in
set_option maxRecDepth 100000 in
theorem bK_firstMark {x : zX} {w : zR} (C : zC x prog_2_method_3_code "BarrierMarks$AckRow" "firstMark" 1 0 0 (some .int)) (M : zM x (zc w) (zs w)) : ∀ (V : zV) (n : Nat) (a0 : Nat), fK_firstMark V n a0 = some w → zZ x 1 0 0 w V n 0 [(0, va_rf (some a0))] [] := by
  intro V n a0 h
  unfold fK_firstMark at h
  refine z_aload_n C 0 dK_firstMark_0 rfl rfl ?_
  refine z_getR C fl_K_9 dK_firstMark_1 h (fun t1 h => ?_)
  refine z_aload_n C 0 dK_firstMark_4 rfl rfl ?_
  refine z_getI C fl_K_22 dK_firstMark_5 h (fun t2 h => ?_)
  refine z_iald C rfl dK_firstMark_8 h (fun t3 h => ?_)
  exact z_iret C M (Nat.zero_le _) (Nat.zero_le _) dK_firstMark_9 h
theorem mK_firstMark {l : Launch} {D : va_G} {dA : Nat → ClassId} {V : zV} {n : Nat} (hl : l.stackTraces = false) {a0 : Nat} {w : zR} (h : fK_firstMark V n a0 = some w) : z_Met l ⟨"BarrierMarks$AckRow", "firstMark", "()I"⟩ prog_2_method_3_code 1 (some .int) 0 0 (zc w) (zs w) [.ref a0] D dA V n w := z_ofZ hl (by decide) (Nat.le_of_ble_eq_true rfl) (fun x C M => bK_firstMark C M V n a0 h)
/-! BarrierMarks$AckRow.firstTask()I -/
def fK_firstTask (V : zV) (n : Nat) (a0 : Nat) : Option zR :=
    (zgR V (some a0) [0] 1).bind fun t1 =>
    (zgI V (some a0) [0] 2).bind fun t2 =>
    (zaI V t1 0 t2).bind fun t3 =>
    zrI t3 V n
set_option maxHeartbeats 4000000 in
set_option maxRecDepth 100000 in
theorem bK_firstTask {x : zX} {w : zR} (C : zC x prog_2_method_4_code "BarrierMarks$AckRow" "firstTask" 1 0 0 (some .int)) (M : zM x (zc w) (zs w)) : ∀ (V : zV) (n : Nat) (a0 : Nat), fK_firstTask V n a0 = some w → zZ x 1 0 0 w V n 0 [(0, va_rf (some a0))] [] := by
  intro V n a0 h
  unfold fK_firstTask at h
  refine z_aload_n C 0 dK_firstTask_0 rfl rfl ?_
  refine z_getR C fl_K_15 dK_firstTask_1 h (fun t1 h => ?_)
  refine z_aload_n C 0 dK_firstTask_4 rfl rfl ?_
  refine z_getI C fl_K_22 dK_firstTask_5 h (fun t2 h => ?_)
  refine z_iald C rfl dK_firstTask_8 h (fun t3 h => ?_)
  exact z_iret C M (Nat.zero_le _) (Nat.zero_le _) dK_firstTask_9 h
theorem mK_firstTask {l : Launch} {D : va_G} {dA : Nat → ClassId} {V : zV} {n : Nat} (hl : l.stackTraces = false) {a0 : Nat} {w : zR} (h : fK_firstTask V n a0 = some w) : z_Met l ⟨"BarrierMarks$AckRow", "firstTask", "()I"⟩ prog_2_method_4_code 1 (some .int) 0 0 (zc w) (zs w) [.ref a0] D dA V n w := z_ofZ hl (by decide) (Nat.le_of_ble_eq_true rfl) (fun x C M => bK_firstTask C M V n a0 h)
/-! BarrierMarks$AckRow.dropFirst()V -/
def fK_dropFirst_40 (V : zV) (n : Nat) (s0 : Option Nat) (s1 : Int32) : Option zR :=
    (zpI V s0 [0] 2 s1).bind fun V =>
    zrV V n
set_option maxHeartbeats 4000000 in
set_option maxRecDepth 100000 in
theorem bK_dropFirst_40 {x : zX} {w : zR} (C : zC x prog_2_method_5_code "BarrierMarks$AckRow" "dropFirst" 1 0 0 none) (M : zM x (zc w) (zs w)) : ∀ (V : zV) (n : Nat) (s0 : Option Nat) (s1 : Int32), fK_dropFirst_40 V n s0 s1 = some w → zZ x 1 0 0 w V n 40 [] [.int s1, va_rf s0] := by
  intro V n s0 s1 h
  unfold fK_dropFirst_40 at h
  refine z_putI C pf_K_22 (fun h => absurd h (by decide)) dK_dropFirst_40 h (fun V h => ?_)
  exact z_vret C M (Nat.zero_le _) (Nat.zero_le _) dK_dropFirst_43 h
def fK_dropFirst (V : zV) (n : Nat) (a0 : Nat) : Option zR :=
    (zgI V (some a0) [0] 3).bind fun t1 =>
    if t1 ≤ 0 then (
    zrV V n) else (
    (zgI V (some a0) [0] 3).bind fun t2 =>
    (zpI V (some a0) [0] 3 ((t2 - (1 : Int32)))).bind fun V =>
    (zgI V (some a0) [0] 2).bind fun t3 =>
    if (520 : Int32) ≤ (t3 + (1 : Int32)) then (
    fK_dropFirst_40 V n (some a0) (0 : Int32)) else (
    (zgI V (some a0) [0] 2).bind fun t4 =>
    fK_dropFirst_40 V n (some a0) ((t4 + (1 : Int32)))))
set_option maxHeartbeats 4000000 in
set_option maxRecDepth 100000 in
theorem bK_dropFirst {x : zX} {w : zR} (C : zC x prog_2_method_5_code "BarrierMarks$AckRow" "dropFirst" 1 0 0 none) (M : zM x (zc w) (zs w)) : ∀ (V : zV) (n : Nat) (a0 : Nat), fK_dropFirst V n a0 = some w → zZ x 1 0 0 w V n 0 [(0, va_rf (some a0))] [] := by
  intro V n a0 h
  unfold fK_dropFirst at h
  refine z_aload_n C 0 dK_dropFirst_0 rfl rfl ?_
  refine z_getI C fl_K_18 dK_dropFirst_1 h (fun t1 h => ?_)
  refine z_if_le C 43 dK_dropFirst_4 (by decide) h (fun h => ?_) (fun h => ?_)
  · exact z_vret C M (Nat.zero_le _) (Nat.zero_le _) dK_dropFirst_43 h
  · refine z_aload_n C 0 dK_dropFirst_7 rfl rfl ?_
    refine z_dup C dK_dropFirst_8 (zrfcat _) ?_
    refine z_getI C fl_K_18 dK_dropFirst_9 h (fun t2 h => ?_)
    refine z_iconst (v := 1) C dK_dropFirst_12 (by decide) ?_
    refine z_isub C dK_dropFirst_13 ?_
    refine z_putI C pf_K_18 (fun h => absurd h (by decide)) dK_dropFirst_14 h (fun V h => ?_)
    refine z_aload_n C 0 dK_dropFirst_17 rfl rfl ?_
    refine z_aload_n C 0 dK_dropFirst_18 rfl rfl ?_
    refine z_getI C fl_K_22 dK_dropFirst_19 h (fun t3 h => ?_)
    refine z_iconst (v := 1) C dK_dropFirst_22 (by decide) ?_
    refine z_iadd C dK_dropFirst_23 ?_
    refine z_sipush (v := 520) C dK_dropFirst_24 (by decide) ?_
    refine z_icmp_ge C 39 dK_dropFirst_27 (by decide) h (fun h => ?_) (fun h => ?_)
    · refine z_iconst (v := 0) C dK_dropFirst_39 (by decide) ?_
      refine z_sub [] rfl ?_
      exact bK_dropFirst_40 C M V n (some a0) (0 : Int32) h
    · refine z_aload_n C 0 dK_dropFirst_30 rfl rfl ?_
      refine z_getI C fl_K_22 dK_dropFirst_31 h (fun t4 h => ?_)
      refine z_iconst (v := 1) C dK_dropFirst_34 (by decide) ?_
      refine z_iadd C dK_dropFirst_35 ?_
      refine z_goto C 40 dK_dropFirst_36 (by decide) ?_
      refine z_sub [] rfl ?_
      exact bK_dropFirst_40 C M V n (some a0) ((t4 + (1 : Int32))) h
theorem mK_dropFirst {l : Launch} {D : va_G} {dA : Nat → ClassId} {V : zV} {n : Nat} (hl : l.stackTraces = false) {a0 : Nat} {w : zR} (h : fK_dropFirst V n a0 = some w) : z_Met l ⟨"BarrierMarks$AckRow", "dropFirst", "()V"⟩ prog_2_method_5_code 1 none 0 0 (zc w) (zs w) [.ref a0] D dA V n w := z_ofZ hl (by decide) (Nat.le_of_ble_eq_true rfl) (fun x C M => bK_dropFirst C M V n a0 h)
/-! BarrierMarks$AckRow.clear()V -/
def fK_clear (V : zV) (n : Nat) (a0 : Nat) : Option zR :=
    (zpI V (some a0) [0] 2 (0 : Int32)).bind fun V =>
    (zpI V (some a0) [0] 3 (0 : Int32)).bind fun V =>
    zrV V n
set_option maxHeartbeats 4000000 in
set_option maxRecDepth 100000 in
theorem bK_clear {x : zX} {w : zR} (C : zC x prog_2_method_6_code "BarrierMarks$AckRow" "clear" 1 0 0 none) (M : zM x (zc w) (zs w)) : ∀ (V : zV) (n : Nat) (a0 : Nat), fK_clear V n a0 = some w → zZ x 1 0 0 w V n 0 [(0, va_rf (some a0))] [] := by
  intro V n a0 h
  unfold fK_clear at h
  refine z_aload_n C 0 dK_clear_0 rfl rfl ?_
  refine z_iconst (v := 0) C dK_clear_1 (by decide) ?_
  refine z_putI C pf_K_22 (fun h => absurd h (by decide)) dK_clear_2 h (fun V h => ?_)
  refine z_aload_n C 0 dK_clear_5 rfl rfl ?_
  refine z_iconst (v := 0) C dK_clear_6 (by decide) ?_
  refine z_putI C pf_K_18 (fun h => absurd h (by decide)) dK_clear_7 h (fun V h => ?_)
  exact z_vret C M (Nat.zero_le _) (Nat.zero_le _) dK_clear_10 h
theorem mK_clear {l : Launch} {D : va_G} {dA : Nat → ClassId} {V : zV} {n : Nat} (hl : l.stackTraces = false) {a0 : Nat} {w : zR} (h : fK_clear V n a0 = some w) : z_Met l ⟨"BarrierMarks$AckRow", "clear", "()V"⟩ prog_2_method_6_code 1 none 0 0 (zc w) (zs w) [.ref a0] D dA V n w := z_ofZ hl (by decide) (Nat.le_of_ble_eq_true rfl) (fun x C M => bK_clear C M V n a0 h)
end
