/-! ROWS FOR THE LAW AND ITS HELPERS: any end Q, any area A that may be written -/
abbrev gX : Type := Program × Launch × Env × Room × State × MethodId × Array Value × List Frame × Method × Code × va_G × (Nat → ClassId)
def gZ (x : gX) (A : Nat → Prop) (Q : State → Prop) (nL cells slots : Nat) (V : zV) (n pc : Nat) (lv : List (Nat × Value)) (st : List Value) : Prop := match x with
  | (p, l, e, R, s, m, args, below, meth, c, D, dA) => ∀ (H : Heap) (locs : List Loc) (ls : Array Slot), z_H D dA zcl A s.heap V n H locs → lv_has ls nL lv → W p l e R s m args below meth c H locs cells slots Q (F0 m pc ls st)
def gC (x : gX) (A : Nat → Prop) (cc : ByteArray) (own : String) (nL F L MC MS : Nat) : Prop := match x with
  | (p, l, _, R, s, m, args, _, meth, c, D, dA) => p.tables.exec = Jvm.exec ∧ c.code = cc ∧ c.maxLocals = nL ∧ s.vm.findClass own = some m.cls ∧ (∀ w ∈ zTs, w.before args s = true) ∧ zK D dA A s ∧ (∀ q, s.heap.size ≤ q → A q) ∧ meth.locks = false ∧ l.stackTraces = false ∧ R = { frames := F, cells := MC, slots := MS, locals := L }
section GR
variable {x : gX} {A : Nat → Prop} {Q : State → Prop} {cc : ByteArray} {own : String} {nL F L MC MS : Nat} {cells slots : Nat} {V : zV} {n pc : Nat} {lv lv' : List (Nat × Value)} {st st0 rest : List Value}
theorem g_iadd (C : gC x A cc own nL F L MC MS) {a b : Int32} (d : decode cc pc = .ok (.iadd, 1)) (k : gZ x A Q nL cells slots V n (pc + 1) lv (.int (a + b) :: st)) : gZ x A Q nL cells slots V n (pc) lv (.int b :: .int a :: st) := by
  obtain ⟨p, l, e, R, s, m, args, below, meth, c, D, dA⟩ := x
  exact fun H locs ls h hl => lv_iadd C.1 C.2.1 d (k H locs ls h hl)
theorem g_isub (C : gC x A cc own nL F L MC MS) {a b : Int32} (d : decode cc pc = .ok (.isub, 1)) (k : gZ x A Q nL cells slots V n (pc + 1) lv (.int (a - b) :: st)) : gZ x A Q nL cells slots V n (pc) lv (.int b :: .int a :: st) := by
  obtain ⟨p, l, e, R, s, m, args, below, meth, c, D, dA⟩ := x
  exact fun H locs ls h hl => lv_isub C.1 C.2.1 d (k H locs ls h hl)
theorem g_iand (C : gC x A cc own nL F L MC MS) {a b : Int32} (d : decode cc pc = .ok (.iand, 1)) (k : gZ x A Q nL cells slots V n (pc + 1) lv (.int (a &&& b) :: st)) : gZ x A Q nL cells slots V n (pc) lv (.int b :: .int a :: st) := by
  obtain ⟨p, l, e, R, s, m, args, below, meth, c, D, dA⟩ := x
  exact fun H locs ls h hl => lv_iand C.1 C.2.1 d (k H locs ls h hl)
theorem g_land (C : gC x A cc own nL F L MC MS) {a b : Int64} (d : decode cc pc = .ok (.land, 1)) (k : gZ x A Q nL cells slots V n (pc + 1) lv (.long (a &&& b) :: st)) : gZ x A Q nL cells slots V n (pc) lv (.long b :: .long a :: st) := by
  obtain ⟨p, l, e, R, s, m, args, below, meth, c, D, dA⟩ := x
  exact fun H locs ls h hl => lv_land C.1 C.2.1 d (k H locs ls h hl)
theorem g_lor (C : gC x A cc own nL F L MC MS) {a b : Int64} (d : decode cc pc = .ok (.lor, 1)) (k : gZ x A Q nL cells slots V n (pc + 1) lv (.long (a ||| b) :: st)) : gZ x A Q nL cells slots V n (pc) lv (.long b :: .long a :: st) := by
  obtain ⟨p, l, e, R, s, m, args, below, meth, c, D, dA⟩ := x
  exact fun H locs ls h hl => lv_lor C.1 C.2.1 d (k H locs ls h hl)
theorem g_lshl (C : gC x A cc own nL F L MC MS) {a : Int64} {b : Int32} {v : Int64} (d : decode cc pc = .ok (.lshl, 1)) (hv : a <<< (b.toInt64 &&& 63) = v) (k : gZ x A Q nL cells slots V n (pc + 1) lv (.long v :: st)) : gZ x A Q nL cells slots V n (pc) lv (.int b :: .long a :: st) := by
  obtain ⟨p, l, e, R, s, m, args, below, meth, c, D, dA⟩ := x
  exact fun H locs ls h hl => lv_lshl C.1 C.2.1 d hv (k H locs ls h hl)
theorem g_i2l (C : gC x A cc own nL F L MC MS) {a : Int32} (d : decode cc pc = .ok (.i2l, 1)) (k : gZ x A Q nL cells slots V n (pc + 1) lv (.long a.toInt64 :: st)) : gZ x A Q nL cells slots V n (pc) lv (.int a :: st) := by
  obtain ⟨p, l, e, R, s, m, args, below, meth, c, D, dA⟩ := x
  exact fun H locs ls h hl => lv_i2l C.1 C.2.1 d rfl (k H locs ls h hl)
theorem g_lcmp (C : gC x A cc own nL F L MC MS) {a b : Int64} (d : decode cc pc = .ok (.lcmp, 1)) (k : gZ x A Q nL cells slots V n (pc + 1) lv (.int (lg_cmp a b) :: st)) : gZ x A Q nL cells slots V n (pc) lv (.long b :: .long a :: st) := by
  obtain ⟨p, l, e, R, s, m, args, below, meth, c, D, dA⟩ := x
  exact fun H locs ls h hl => W.lcmp C.1 C.2.1 d (k H locs ls h hl)
theorem g_iconst (C : gC x A cc own nL F L MC MS) {i : Int} {v : Int32} (d : decode cc pc = .ok (.iconst i, 1)) (hv : Int32.ofInt i = v) (k : gZ x A Q nL cells slots V n (pc + 1) lv (.int v :: st)) : gZ x A Q nL cells slots V n (pc) lv st := by
  obtain ⟨p, l, e, R, s, m, args, below, meth, c, D, dA⟩ := x
  exact fun H locs ls h hl => lv_iconst C.1 C.2.1 d hv (k H locs ls h hl)
theorem g_bipush (C : gC x A cc own nL F L MC MS) {i : Int} {v : Int32} (d : decode cc pc = .ok (.bipush i, 2)) (hv : (Int8.ofInt i).toInt32 = v) (k : gZ x A Q nL cells slots V n (pc + 2) lv (.int v :: st)) : gZ x A Q nL cells slots V n (pc) lv st := by
  obtain ⟨p, l, e, R, s, m, args, below, meth, c, D, dA⟩ := x
  exact fun H locs ls h hl => lv_bipush C.1 C.2.1 d hv (k H locs ls h hl)
theorem g_lconst (C : gC x A cc own nL F L MC MS) {k : Fin 2} {v : Int64} (d : decode cc pc = .ok (.lconst k, 1)) (hv : Int64.ofNat (k : Nat) = v) (k : gZ x A Q nL cells slots V n (pc + 1) lv (.long v :: st)) : gZ x A Q nL cells slots V n (pc) lv st := by
  obtain ⟨p, l, e, R, s, m, args, below, meth, c, D, dA⟩ := x
  exact fun H locs ls h hl => lv_lconst C.1 C.2.1 d hv (k H locs ls h hl)
theorem g_ldc2 (C : gC x A cc own nL F L MC MS) {i : Nat} {v : Int64} (d : decode cc pc = .ok (.ldc2_w i, 3)) (hw : Cond.constantLong own i v ∈ zTs) (k : gZ x A Q nL cells slots V n (pc + 3) lv (.long v :: st)) : gZ x A Q nL cells slots V n (pc) lv st := by
  obtain ⟨p, l, e, R, s, m, args, below, meth, c, D, dA⟩ := x
  exact fun H locs ls h hl => lv_ldc2 C.1 C.2.1 C.2.2.2.1 (C.2.2.2.2.1 _ hw) d (k H locs ls h hl)
theorem g_dup (C : gC x A cc own nL F L MC MS) {v : Value} (d : decode cc pc = .ok (.dup, 1)) (hv : v.category = 1) (k : gZ x A Q nL cells slots V n (pc + 1) lv (v :: v :: st)) : gZ x A Q nL cells slots V n (pc) lv (v :: st) := by
  obtain ⟨p, l, e, R, s, m, args, below, meth, c, D, dA⟩ := x
  exact fun H locs ls h hl => lv_dup C.1 C.2.1 d hv (k H locs ls h hl)
theorem g_pop (C : gC x A cc own nL F L MC MS) {v : Value} (d : decode cc pc = .ok (.pop, 1)) (hv : v.category = 1) (k : gZ x A Q nL cells slots V n (pc + 1) lv st) : gZ x A Q nL cells slots V n (pc) lv (v :: st) := by
  obtain ⟨p, l, e, R, s, m, args, below, meth, c, D, dA⟩ := x
  exact fun H locs ls h hl => lv_pop C.1 C.2.1 d hv (k H locs ls h hl)
theorem g_iload_n (C : gC x A cc own nL F L MC MS) {k : Fin 4} {i : Nat} {a : Int32} (q : Nat) (d : decode cc pc = .ok (.iload_n k, 1)) (hi : (k : Nat) = i) (hq : lv[q]? = some (i, .int a)) (k9 : gZ x A Q nL cells slots V n (pc + 1) lv (.int a :: st)) : gZ x A Q nL cells slots V n (pc) lv st := by
  obtain ⟨p, l, e, R, s, m, args, below, meth, c, D, dA⟩ := x
  exact fun H locs ls h hl => lv_iload_n C.1 C.2.1 d hi (lv_at hl q hq) (k9 H locs ls h hl)
theorem g_iload (C : gC x A cc own nL F L MC MS) {i : Nat} {a : Int32} (q : Nat) (d : decode cc pc = .ok (.iload i, 2)) (hq : lv[q]? = some (i, .int a)) (k9 : gZ x A Q nL cells slots V n (pc + 2) lv (.int a :: st)) : gZ x A Q nL cells slots V n (pc) lv st := by
  obtain ⟨p, l, e, R, s, m, args, below, meth, c, D, dA⟩ := x
  exact fun H locs ls h hl => lv_iload C.1 C.2.1 d (lv_at hl q hq) (k9 H locs ls h hl)
theorem g_lload_n (C : gC x A cc own nL F L MC MS) {k : Fin 4} {i : Nat} {a : Int64} (q : Nat) (d : decode cc pc = .ok (.lload_n k, 1)) (hi : (k : Nat) = i) (hq : lv[q]? = some (i, .long a)) (k9 : gZ x A Q nL cells slots V n (pc + 1) lv (.long a :: st)) : gZ x A Q nL cells slots V n (pc) lv st := by
  obtain ⟨p, l, e, R, s, m, args, below, meth, c, D, dA⟩ := x
  exact fun H locs ls h hl => lv_lload_n C.1 C.2.1 d hi (lv_at hl q hq) (k9 H locs ls h hl)
theorem g_lload (C : gC x A cc own nL F L MC MS) {i : Nat} {a : Int64} (q : Nat) (d : decode cc pc = .ok (.lload i, 2)) (hq : lv[q]? = some (i, .long a)) (k9 : gZ x A Q nL cells slots V n (pc + 2) lv (.long a :: st)) : gZ x A Q nL cells slots V n (pc) lv st := by
  obtain ⟨p, l, e, R, s, m, args, below, meth, c, D, dA⟩ := x
  exact fun H locs ls h hl => lv_lload C.1 C.2.1 d (lv_at hl q hq) (k9 H locs ls h hl)
theorem g_aload_n (C : gC x A cc own nL F L MC MS) {k : Fin 4} {i : Nat} {a : Nat} (q : Nat) (d : decode cc pc = .ok (.aload_n k, 1)) (hi : (k : Nat) = i) (hq : lv[q]? = some (i, .ref a)) (k9 : gZ x A Q nL cells slots V n (pc + 1) lv (.ref a :: st)) : gZ x A Q nL cells slots V n (pc) lv st := by
  obtain ⟨p, l, e, R, s, m, args, below, meth, c, D, dA⟩ := x
  exact fun H locs ls h hl => lv_aload_n C.1 C.2.1 d hi (lv_at hl q hq) (k9 H locs ls h hl)
theorem g_aload (C : gC x A cc own nL F L MC MS) {i : Nat} {a : Nat} (q : Nat) (d : decode cc pc = .ok (.aload i, 2)) (hq : lv[q]? = some (i, .ref a)) (k9 : gZ x A Q nL cells slots V n (pc + 2) lv (.ref a :: st)) : gZ x A Q nL cells slots V n (pc) lv st := by
  obtain ⟨p, l, e, R, s, m, args, below, meth, c, D, dA⟩ := x
  exact fun H locs ls h hl => lv_aload C.1 C.2.1 d (lv_at hl q hq) (k9 H locs ls h hl)
theorem g_istore_n (C : gC x A cc own nL F L MC MS) {k : Fin 4} {i : Nat} {a : Int32} (d : decode cc pc = .ok (.istore_n k, 1)) (hi : (k : Nat) = i) (hn : i < nL) (hl' : (i, Value.int a) :: lv.filter (fun q => !(q.1 == i) && !(q.1 + 1 == i && q.2.category == 2)) = lv') (k9 : gZ x A Q nL cells slots V n (pc + 1) lv' st) : gZ x A Q nL cells slots V n (pc) lv (.int a :: st) := by
  obtain ⟨p, l, e, R, s, m, args, below, meth, c, D, dA⟩ := x
  exact fun H locs ls h hl => lv_istore_n C.1 C.2.1 d hi hl hn hl' (fun ls' h' => k9 H locs ls' h h')
theorem g_istore (C : gC x A cc own nL F L MC MS) {i : Nat} {a : Int32} (d : decode cc pc = .ok (.istore i, 2)) (hn : i < nL) (hl' : (i, Value.int a) :: lv.filter (fun q => !(q.1 == i) && !(q.1 + 1 == i && q.2.category == 2)) = lv') (k9 : gZ x A Q nL cells slots V n (pc + 2) lv' st) : gZ x A Q nL cells slots V n (pc) lv (.int a :: st) := by
  obtain ⟨p, l, e, R, s, m, args, below, meth, c, D, dA⟩ := x
  exact fun H locs ls h hl => lv_istore C.1 C.2.1 d hl hn hl' (fun ls' h' => k9 H locs ls' h h')
theorem g_lstore_n (C : gC x A cc own nL F L MC MS) {k : Fin 4} {i : Nat} {a : Int64} (d : decode cc pc = .ok (.lstore_n k, 1)) (hi : (k : Nat) = i) (hn : i + 1 < nL) (hl' : (i, Value.long a) :: lv.filter (fun q => !(q.1 == i) && (!(q.1 == i + 1) && !(q.1 + 1 == i && q.2.category == 2))) = lv') (k9 : gZ x A Q nL cells slots V n (pc + 1) lv' st) : gZ x A Q nL cells slots V n (pc) lv (.long a :: st) := by
  obtain ⟨p, l, e, R, s, m, args, below, meth, c, D, dA⟩ := x
  exact fun H locs ls h hl => lv_lstore_n C.1 C.2.1 d hi hl hn hl' (fun ls' h' => k9 H locs ls' h h')
theorem g_lstore (C : gC x A cc own nL F L MC MS) {i : Nat} {a : Int64} (d : decode cc pc = .ok (.lstore i, 2)) (hn : i + 1 < nL) (hl' : (i, Value.long a) :: lv.filter (fun q => !(q.1 == i) && (!(q.1 == i + 1) && !(q.1 + 1 == i && q.2.category == 2))) = lv') (k9 : gZ x A Q nL cells slots V n (pc + 2) lv' st) : gZ x A Q nL cells slots V n (pc) lv (.long a :: st) := by
  obtain ⟨p, l, e, R, s, m, args, below, meth, c, D, dA⟩ := x
  exact fun H locs ls h hl => lv_lstore C.1 C.2.1 d hl hn hl' (fun ls' h' => k9 H locs ls' h h')
theorem g_astore_n (C : gC x A cc own nL F L MC MS) {k : Fin 4} {i : Nat} {a : Nat} (d : decode cc pc = .ok (.astore_n k, 1)) (hi : (k : Nat) = i) (hn : i < nL) (hl' : (i, Value.ref a) :: lv.filter (fun q => !(q.1 == i) && !(q.1 + 1 == i && q.2.category == 2)) = lv') (k9 : gZ x A Q nL cells slots V n (pc + 1) lv' st) : gZ x A Q nL cells slots V n (pc) lv (.ref a :: st) := by
  obtain ⟨p, l, e, R, s, m, args, below, meth, c, D, dA⟩ := x
  exact fun H locs ls h hl => lv_astore_n C.1 C.2.1 d hi hl hn hl' (fun ls' h' => k9 H locs ls' h h')
theorem g_astore (C : gC x A cc own nL F L MC MS) {i : Nat} {a : Nat} (d : decode cc pc = .ok (.astore i, 2)) (hn : i < nL) (hl' : (i, Value.ref a) :: lv.filter (fun q => !(q.1 == i) && !(q.1 + 1 == i && q.2.category == 2)) = lv') (k9 : gZ x A Q nL cells slots V n (pc + 2) lv' st) : gZ x A Q nL cells slots V n (pc) lv (.ref a :: st) := by
  obtain ⟨p, l, e, R, s, m, args, below, meth, c, D, dA⟩ := x
  exact fun H locs ls h hl => lv_astore C.1 C.2.1 d hl hn hl' (fun ls' h' => k9 H locs ls' h h')
theorem g_iinc (C : gC x A cc own nL F L MC MS) {i : Nat} {j : Int} {a b : Int32} (q : Nat) (d : decode cc pc = .ok (.iinc i j, 3)) (hq : lv[q]? = some (i, .int a)) (hb : a + Int32.ofInt j = b) (hn : i < nL) (hl' : (i, Value.int b) :: lv.filter (fun q => !(q.1 == i) && !(q.1 + 1 == i && q.2.category == 2)) = lv') (k9 : gZ x A Q nL cells slots V n (pc + 3) lv' st) : gZ x A Q nL cells slots V n (pc) lv st := by
  obtain ⟨p, l, e, R, s, m, args, below, meth, c, D, dA⟩ := x
  exact fun H locs ls h hl => lv_iinc C.1 C.2.1 d hl hq hb hn hl' (fun ls' h' => k9 H locs ls' h h')
theorem g_sub (ks : List Nat) (hk : lv_pick lv ks = lv') (k9 : gZ x A Q nL cells slots V n pc lv' st) : gZ x A Q nL cells slots V n pc lv st := by
  obtain ⟨p, l, e, R, s, m, args, below, meth, c, D, dA⟩ := x
  exact fun H locs ls h hl => k9 H locs ls h (lv_sub hl ks hk)
theorem g_widen {c2 s2 : Nat} (h1 : cells ≤ c2) (h2 : slots ≤ s2) (k9 : gZ x A Q nL c2 s2 V n pc lv st) : gZ x A Q nL cells slots V n pc lv st := by
  obtain ⟨p, l, e, R, s, m, args, below, meth, c, D, dA⟩ := x
  exact fun H locs ls h hl => W.widen h1 h2 (k9 H locs ls h hl)
theorem g_goto (C : gC x A cc own nL F L MC MS) {off : Int} (tgt : Nat) (d : decode cc pc = .ok (.goto off, 3)) (ht : (pc : Int) + off = (tgt : Int)) (k9 : gZ x A Q nL cells slots V n tgt lv st) : gZ x A Q nL cells slots V n (pc) lv st := by
  obtain ⟨p, l, e, R, s, m, args, below, meth, c, D, dA⟩ := x
  exact fun H locs ls h hl => lv_goto C.1 C.2.1 d ht (k9 H locs ls h hl)
theorem g_if_eq (C : gC x A cc own nL F L MC MS) {a : Int32} {off : Int} (tgt : Nat) (d : decode cc pc = .ok (.ifCond .eq off, 3)) (ht : (pc : Int) + off = (tgt : Int)) (kt : a = 0 → gZ x A Q nL cells slots V n tgt lv st) (kf : ¬ a = 0 → gZ x A Q nL cells slots V n (pc + 3) lv st) : gZ x A Q nL cells slots V n (pc) lv (.int a :: st) := by
  obtain ⟨p, l, e, R, s, m, args, below, meth, c, D, dA⟩ := x
  exact fun H locs ls h0 hl => lv_if_eq C.1 C.2.1 d ht (fun q => kt q H locs ls h0 hl) (fun q => kf q H locs ls h0 hl)
theorem g_icmp_eq (C : gC x A cc own nL F L MC MS) {a b : Int32} {off : Int} (tgt : Nat) (d : decode cc pc = .ok (.if_icmp .eq off, 3)) (ht : (pc : Int) + off = (tgt : Int)) (kt : a = b → gZ x A Q nL cells slots V n tgt lv st) (kf : ¬ a = b → gZ x A Q nL cells slots V n (pc + 3) lv st) : gZ x A Q nL cells slots V n (pc) lv (.int b :: .int a :: st) := by
  obtain ⟨p, l, e, R, s, m, args, below, meth, c, D, dA⟩ := x
  exact fun H locs ls h0 hl => lv_icmp_eq C.1 C.2.1 d ht (fun q => kt q H locs ls h0 hl) (fun q => kf q H locs ls h0 hl)
theorem g_if_ne (C : gC x A cc own nL F L MC MS) {a : Int32} {off : Int} (tgt : Nat) (d : decode cc pc = .ok (.ifCond .ne off, 3)) (ht : (pc : Int) + off = (tgt : Int)) (kt : ¬ a = 0 → gZ x A Q nL cells slots V n tgt lv st) (kf : a = 0 → gZ x A Q nL cells slots V n (pc + 3) lv st) : gZ x A Q nL cells slots V n (pc) lv (.int a :: st) := by
  obtain ⟨p, l, e, R, s, m, args, below, meth, c, D, dA⟩ := x
  exact fun H locs ls h0 hl => lv_if_ne C.1 C.2.1 d ht (fun q => kt q H locs ls h0 hl) (fun q => kf q H locs ls h0 hl)
theorem g_icmp_ne (C : gC x A cc own nL F L MC MS) {a b : Int32} {off : Int} (tgt : Nat) (d : decode cc pc = .ok (.if_icmp .ne off, 3)) (ht : (pc : Int) + off = (tgt : Int)) (kt : ¬ a = b → gZ x A Q nL cells slots V n tgt lv st) (kf : a = b → gZ x A Q nL cells slots V n (pc + 3) lv st) : gZ x A Q nL cells slots V n (pc) lv (.int b :: .int a :: st) := by
  obtain ⟨p, l, e, R, s, m, args, below, meth, c, D, dA⟩ := x
  exact fun H locs ls h0 hl => lv_icmp_ne C.1 C.2.1 d ht (fun q => kt q H locs ls h0 hl) (fun q => kf q H locs ls h0 hl)
theorem g_if_gt (C : gC x A cc own nL F L MC MS) {a : Int32} {off : Int} (tgt : Nat) (d : decode cc pc = .ok (.ifCond .gt off, 3)) (ht : (pc : Int) + off = (tgt : Int)) (kt : 0 < a → gZ x A Q nL cells slots V n tgt lv st) (kf : ¬ 0 < a → gZ x A Q nL cells slots V n (pc + 3) lv st) : gZ x A Q nL cells slots V n (pc) lv (.int a :: st) := by
  obtain ⟨p, l, e, R, s, m, args, below, meth, c, D, dA⟩ := x
  exact fun H locs ls h0 hl => lv_if_gt C.1 C.2.1 d ht (fun q => kt q H locs ls h0 hl) (fun q => kf q H locs ls h0 hl)
theorem g_icmp_gt (C : gC x A cc own nL F L MC MS) {a b : Int32} {off : Int} (tgt : Nat) (d : decode cc pc = .ok (.if_icmp .gt off, 3)) (ht : (pc : Int) + off = (tgt : Int)) (kt : b < a → gZ x A Q nL cells slots V n tgt lv st) (kf : ¬ b < a → gZ x A Q nL cells slots V n (pc + 3) lv st) : gZ x A Q nL cells slots V n (pc) lv (.int b :: .int a :: st) := by
  obtain ⟨p, l, e, R, s, m, args, below, meth, c, D, dA⟩ := x
  exact fun H locs ls h0 hl => lv_icmp_gt C.1 C.2.1 d ht (fun q => kt q H locs ls h0 hl) (fun q => kf q H locs ls h0 hl)
theorem g_lald (C : gC x A cc own nL F L MC MS) {a N : Nat} {f : Nat → Int64} {i : Int32} (hV : V a = some (.inl (1, N, .inr (.inl f)))) (hin : ¬ (i < 0 ∨ N ≤ i.toNatClampNeg)) (d : decode cc pc = .ok (.laload, 1)) (k9 : gZ x A Q nL cells slots V n (pc + 1) lv (.long (f i.toNatClampNeg) :: st)) : gZ x A Q nL cells slots V n (pc) lv (.int i :: .ref a :: st) := by
  obtain ⟨p, l, e, R, s, m, args, below, meth, c, D, dA⟩ := x
  exact fun H locs ls hH hls => va_lald C.1 C.2.1 (C.2.2.2.2.2.1.arr (t := 1) (ty := .long) rfl) (hH.2.2.1.one hV) 0 0 rfl rfl hin d (k9 H locs ls hH hls)
theorem g_last (C : gC x A cc own nL F L MC MS) {a N : Nat} {f : Nat → Int64} {i : Int32} {v : Int64} (hV : V a = some (.inl (1, N, .inr (.inl f)))) (hin : ¬ (i < 0 ∨ N ≤ i.toNatClampNeg)) (d : decode cc pc = .ok (.lastore, 1)) (k9 : gZ x A Q nL cells slots (z_up V a (.inl (1, N, .inr (.inl (vp_updL f i.toNatClampNeg v))))) n (pc + 1) lv st) : gZ x A Q nL cells slots V n (pc) lv (.long v :: .int i :: .ref a :: st) := by
  obtain ⟨p, l, e, R, s, m, args, below, meth, c, D, dA⟩ := x
  intro H locs ls hH hls
  refine W.last C.1 C.2.1 (hH.2.2.1 a _ hV) (((C.2.2.2.2.2.1.arr (t := 1) (ty := .long) rfl).2 0 _ rfl).1 N _) (fun q => by cases q) (by show ¬ (i < 0 ∨ (arrV _ _ _).slots.size ≤ _); rw [arrV_size]; exact hin) rfl rfl d fun H1 e1 z oq => ?_
  refine k9 H1 _ ls (hH.put hV (x := .inl (1, N, .inr (.inl (vp_updL f i.toNatClampNeg v)))) ?_ z oq) hls
  show H1[a]? = some (vp_cell _ _)
  rw [e1]
  show some ((vp_cell _ _).setSlot _ _) = _
  rw [vp_cell_l, vp_cell_l, arrV_store]
  congr 2
  funext q
  by_cases hq : q = i.toNatClampNeg
  · subst hq
    simp [updV, vp_updL]
  · simp [updV, vp_updL, hq]
theorem g_AA {D : va_G} {dA : Nat → ClassId} {s : State} {H : Heap} {locs : List Loc} (hA : ∀ q, s.heap.size ≤ q → A q) (hH : z_H D dA zcl A s.heap V n H locs) : ∀ q, z_A V n q → A q := by
  intro q h
  rcases h with ⟨y, h⟩ | h
  · exact hH.2.2.2 q y h
  · exact hA q (by have := hH.1.1; have := hH.2.1; omega)
/-- the run of a call at this place -/
def gRun (x : gX) (A : Nat → Prop) (nL cells slots mc1 ms1 : Nat) (w1 : zR) (V : zV) (n pc : Nat) (lv : List (Nat × Value)) (st0 rest : List Value) : Prop := match x with
  | (p, l, e, R, s, m, args, below, meth, c, D, dA) => ∀ (H : Heap) (locs : List Loc) (ls : Array Slot), z_H D dA zcl A s.heap V n H locs → lv_has ls nL lv → ∃ a1 : Array Value, vx_Run p l e R s m args below meth c H locs cells slots mc1 ms1 (F0 m pc ls st0) rest (z_Q D dA V n w1 a1) (z_XC D dA V n w1) (z_A V n)
/-- where the exception q of the class E is thrown at pc of this method -/
def gW (x : gX) (A : Nat → Prop) (Q : State → Prop) (nL cells slots : Nat) (V : zV) (n pc : Nat) (lv : List (Nat × Value)) (rest : List Value) (E : String) : Prop := match x with
  | (p, l, e, R, s, m, args, below, meth, c, D, dA) => ∀ (H : Heap) (locs : List Loc) (ls : Array Slot) (q : Nat) (ce : Cell), z_H D dA zcl A s.heap V n H locs → lv_has ls nL lv → H[q]? = some ce → ce.vm = .none → s.vm.findClass E = some ce.cls → vx_W p l e R s m args below meth c H locs cells slots Q (F0 m pc ls rest) q
theorem g_core {w1 : zR} (C : gC x A cc own nL F L MC MS) {mc1 ms1 : Nat} (hrun : gRun x A nL cells slots mc1 ms1 w1 V n pc lv st0 rest)
    (kk : ∀ v, w1.1 = .inl v → gZ x A Q nL (cells + mc1) (slots + ms1) w1.2.1 w1.2.2 (pc + 3) lv (v.toList ++ rest))
    (kx : ∀ E n', w1.1 = .inr E → n ≤ n' → gW x A Q nL (cells + mc1) (slots + ms1) w1.2.1 n' pc lv rest E) : gZ x A Q nL cells slots V n pc lv st0 := by
  obtain ⟨p, l, e, R, s, m, args, below, meth, c, D, dA⟩ := x
  obtain ⟨hx, hb, hml, hown, hts, hK, hA, hlocks, hl, hR⟩ := C
  intro H locs ls hH hls T hT X
  have hAA := g_AA hA hH
  obtain ⟨a1, hr9⟩ := hrun H locs ls hH hls
  rcases hr9 T hT X with ⟨v, st₀, t, T', L1, h0, X', hL, e1, e2, ⟨v', hv1, hv2, hsz, hP', hA', hF⟩, st⟩ | ⟨q, st₀, t, T', L1, E, ce, h0, X', hL, e1, e2, ⟨hE, hP', hA', hF⟩, hce, hcv, hcl, st⟩
  · cases hv2
    obtain ⟨k1, k2, k3⟩ := vx_keep h0 e1 hH.1 (fun q _ h => hAA q h) hAA hL hF
    obtain ⟨t2, b1, b2⟩ := kk v hv1 T'.heap (locs ++ L1) ls ⟨k3, by rw [e1]; exact hsz, by rw [e1]; exact hP', fun a y ha => hAA a (hA' a y ha)⟩ hls T' rfl X'
    exact ⟨t2, st t2 b1, b2⟩
  · obtain ⟨k1, k2, k3⟩ := vx_keep h0 e1 hH.1 (fun q _ h => hAA q h) hAA hL hF
    obtain ⟨t2, b1, b2⟩ := kx E T'.heap.size hE (by rw [← hH.2.1]; exact k1) T'.heap (locs ++ L1) ls q ce ⟨k3, rfl, by rw [e1]; exact hP', fun a y ha => hAA a (hA' a y ha)⟩ hls (by rw [e1]; exact hce) hcv hcl T' rfl X'
    exact ⟨t2, st.trans b1, b2⟩
theorem g_preV (C : gC x A cc own nL F L MC MS) {b ci : Nat} {fs As : List Value} {C1 : String} {T : u_T} {N : Nat} (hV : V b = some (.inr (ci, fs))) (hc : zcl[ci]? = some (C1, T, N)) : match x with
  | (_, _, _, _, s, _, _, _, _, _, D, dA) => ∀ (H : Heap) (locs : List Loc), z_H D dA zcl A s.heap V n H locs → PreV s H C1 b (va_Pc (.ref b :: As) (fun U => U.heap.size = n ∧ z_P D dA zcl V U.heap ∧ zK D dA (z_A V n) U)) As := by
  obtain ⟨p, l, e, R, s, m, args, below, meth, c, D, dA⟩ := x
  obtain ⟨hx, hb, hml, hown, hts, hK, hA, -⟩ := C
  intro H locs hH
  refine ⟨fun a U g mk q => ?_, va_recv hK.1 (hH.2.2.1.one hV) (ci := ci) (q0 := 0) hc rfl, fun U hU hW => ⟨rfl, by rw [hU]; exact hH.2.1, by rw [hU]; exact hH.2.2.1, hK.move hH.1 hU hW (g_AA hA hH)⟩⟩
  obtain ⟨q0, q1, q2, q3⟩ := q
  exact ⟨q0, q1, q2, q3.move (va_S.rf) rfl (State.WarmedH.refl U) (fun _ h => h)⟩
theorem g_preS (C : gC x A cc own nL F L MC MS) {As : List Value} : match x with
  | (_, _, _, _, s, _, _, _, _, _, D, dA) => ∀ (H : Heap) (locs : List Loc), z_H D dA zcl A s.heap V n H locs → PreS s H (va_Pc As (fun U => U.heap.size = n ∧ z_P D dA zcl V U.heap ∧ zK D dA (z_A V n) U)) As := by
  obtain ⟨p, l, e, R, s, m, args, below, meth, c, D, dA⟩ := x
  obtain ⟨hx, hb, hml, hown, hts, hK, hA, -⟩ := C
  intro H locs hH
  refine ⟨fun a U g mk q => ?_, fun U hU hW => ⟨rfl, by rw [hU]; exact hH.2.1, by rw [hU]; exact hH.2.2.1, hK.move hH.1 hU hW (g_AA hA hH)⟩⟩
  obtain ⟨q0, q1, q2, q3⟩ := q
  exact ⟨q0, q1, q2, q3.move (va_S.rf) rfl (State.WarmedH.refl U) (fun _ h => h)⟩
theorem g_runV {w1 : zR} (C : gC x A cc own nL F L MC MS) {y : MethodName} {bytes : ByteArray} {maxL k idx b ci F1 L1 mc1 ms1 N : Nat} {rt : Option FieldType} {C1 : String} {T : u_T} {fs As : List Value} (hw : zCV own idx C1 y bytes maxL rt k) (hV : V b = some (.inr (ci, fs))) (hc : zcl[ci]? = some (C1, T, N))
    (hM : ∀ (l : Launch) (D : va_G) (dA : Nat → ClassId), l.stackTraces = false → z_Met l y bytes maxL rt F1 L1 mc1 ms1 (.ref b :: As) D dA V n w1) (hF : F1 + 1 ≤ F) (hL : 8 + (maxL + 11) + L1 ≤ L) (hk : As.length = k) (hst : st0 = As.reverse ++ .ref b :: rest) (hrm : (rest.map fun v => v.category).sum ≤ 8) (d : decode cc pc = .ok (.invokevirtual idx, 3)) (hc1 : cells + mc1 ≤ MC) (hs1 : slots + ms1 ≤ MS) : gRun x A nL cells slots mc1 ms1 w1 V n pc lv st0 rest := by
  have hp := g_preV C (As := As) (n := n) hV hc
  obtain ⟨p, l, e, R, s, m, args, below, meth, c, D, dA⟩ := x
  obtain ⟨hx, hb, hml, hown, hts, hK, hA, hlocks, hl, hR⟩ := C
  intro H locs ls hH hls
  obtain ⟨⟨q1, q2, q3, q4, q5⟩, q6⟩ := hw
  refine ⟨_, vx_runV ⟨hx, hb, hml, hown, hts⟩ (hM l D dA hl) (cwV k hts (fun w hw => ?_) rfl rfl rfl q6 (by rw [hR]; exact ⟨hF, hL⟩)) (hp H locs hH) rfl hk hls.1 hst (lv_room hrm) d (by rw [hR]; exact ⟨hc1, hs1⟩)⟩
  rcases List.mem_append.mp hw with h | h
  · simp only [List.mem_cons, List.not_mem_nil, or_false] at h
    rcases h with h | h | h | h
    · rw [h]; exact zTs_good _ q1
    · rw [h]; exact zTs_good _ q2
    · rw [h]; exact zTs_good _ q3
    · rw [h]; exact zTs_good _ q4
  · exact z_goodC q5 w h
theorem g_runI {w1 : zR} (C : gC x A cc own nL F L MC MS) {y : MethodName} {bytes : ByteArray} {maxL k idx b F1 L1 mc1 ms1 : Nat} {As : List Value} {v : Option Value} (hw : zCI own idx y bytes maxL k)
    (hM : ∀ (l : Launch) (D : va_G) (dA : Nat → ClassId), l.stackTraces = false → z_Met l y bytes maxL none F1 L1 mc1 ms1 (.ref b :: As) D dA V n w1) (hv : w1.1 = .inl v) (hF : F1 + 1 ≤ F) (hL : 8 + (maxL + 11) + L1 ≤ L) (hk : As.length = k) (hst : st0 = As.reverse ++ .ref b :: rest) (hrm : (rest.map fun v => v.category).sum ≤ 8) (d : decode cc pc = .ok (.invokespecial idx, 3)) (hc1 : cells + mc1 ≤ MC) (hs1 : slots + ms1 ≤ MS) : gRun x A nL cells slots mc1 ms1 w1 V n pc lv st0 rest := by
  have hp := g_preS C (As := .ref b :: As) (V := V) (n := n)
  obtain ⟨p, l, e, R, s, m, args, below, meth, c, D, dA⟩ := x
  obtain ⟨hx, hb, hml, hown, hts, hK, hA, hlocks, hl, hR⟩ := C
  intro H locs ls hH hls
  obtain ⟨q1, q2, q3, q4, q5, q6⟩ := hw
  exact ⟨_, z_toRun (va_runI ⟨hx, hb, hml, hown, hts⟩ (z_toMet (hM l D dA hl) hv) (cwI k hts (z_goodC q4) rfl rfl rfl (hts _ q3) (hts _ q1) (hts _ q2) q5 q6 (by rw [hR]; exact ⟨hF, hL⟩)) (hp H locs hH) rfl hk hls.1 hst (lv_room hrm) d (by rw [hR]; exact ⟨hc1, hs1⟩))⟩
theorem g_new (C : gC x A cc own nL F L MC MS) {ci idx N : Nat} {C1 : String} {T : u_T} {ty : Nat → FieldType} {fs : List Value} (hc : zcl[ci]? = some (C1, T, N)) (hin : ∀ w ∈ u_ws C1 T N, w ∈ zTs) (hty : ∀ k, k < N → parseFieldDescriptor (T k).2.2.1 = some (ty k)) (hfs : ∀ j, j < N → defaultValue (ty j) = vp_V fs j) (h1 : Cond.classLink own idx C1 ∈ zTs) (h2 : Cond.instantiable C1 N ∈ zTs) (h3 : Cond.initialized C1 ∈ zTs) (hcells : cells + 1 ≤ MC) (hslots : slots + N ≤ MS) (d : decode cc pc = .ok (.new idx, 3)) (k9 : gZ x A Q nL (cells + 1) (slots + N) (z_up V n (.inr (ci, fs))) (n + 1) (pc + 3) lv (.ref n :: st)) : gZ x A Q nL cells slots V n pc lv st := by
  obtain ⟨p, l, e, R, s, m, args, below, meth, c, D, dA⟩ := x
  obtain ⟨hx, hb, hml, hown, hts, hK, hA, hlocks, hl, hR⟩ := C
  intro H locs ls hH hls
  have hKn := hK.1.1 ci _ hc
  refine W.newcK hx hb hown (hts _ h1) (hts _ h2) (hts _ h3) rfl d (by rw [hR]; exact hcells) (by rw [hR]; exact hslots) hKn.2.1 hH.2.1 fun H1 kC hkC e1 z1 o1 => ?_
  exact k9 H1 locs ls (hH.push hA (x := .inr (ci, fs)) ⟨_, hc, (u_born ty hts hin hKn hkC e1 hty).to hfs⟩ z1 o1) hls
theorem g_newaL (C : gC x A cc own nL F L MC MS) {len : Int32} {N : Nat} (hcl : Cond.arrayClass .long ∈ zTs) (hn0 : ¬ len < 0) (hlN : len.toNatClampNeg = N) (hB : N * componentBytes .long ≤ 536870912) (hcells : cells + 1 ≤ MC) (hslots : slots + N ≤ MS) (d : decode cc pc = .ok (.newarray .long, 2)) (k9 : gZ x A Q nL (cells + 1) (slots + N) (z_up V n (.inl (1, N, .inr (.inl (fun _ => 0))))) (n + 1) (pc + 2) lv (.ref n :: st)) : gZ x A Q nL cells slots V n pc lv (.int len :: st) := by
  obtain ⟨p, l, e, R, s, m, args, below, meth, c, D, dA⟩ := x
  obtain ⟨hx, hb, hml, hown, hts, hK, hA, hlocks, hl, hR⟩ := C
  intro H locs ls hH hls
  refine va_newaK (atype := .long) hx hb (hts _ hcl) rfl d rfl hn0 hlN hB (by rw [hR]; exact hcells) (by rw [hR]; exact hslots) hH.2.1 fun H1 cA e1 z1 o1 hA9 hf9 => ?_
  have hra9 : s.vm.findClass ("[" ++ FieldType.long.toString) = some (dA 1) := (hK.2.1 1 .long rfl).2
  cases hf9.symm.trans hra9
  exact k9 H1 locs ls (hH.push hA (x := .inl (1, N, .inr (.inl (fun _ => 0)))) e1 z1 o1) hls
end GR
