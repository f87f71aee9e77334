/-! ROWS OF THE ABSTRACT MACHINE: each turns zZ at an instruction into zZ at the next -/
section ZR
variable {x : zX} {cc : ByteArray} {own nm : String} {nL F L : Nat} {ret : Option FieldType} {cells slots : Nat} {w : zR} {V : zV} {n pc : Nat} {lv lv' : List (Nat × Value)} {st : List Value}
theorem z_iadd (C : zC x cc own nm nL F L ret) {a b : Int32} (d : decode cc pc = .ok (.iadd, 1)) (k : zZ x nL cells slots w V n (pc + 1) lv (.int (a + b) :: st)) : zZ x nL cells slots w V n (pc) lv (.int b :: .int a :: st) := by
  obtain ⟨p, l, e, R, s, m, args, below, meth, c, D, dA, V0, n0, mc, ms⟩ := x
  exact fun H locs ls h hl => lv_iadd C.1 C.2.1 d (k H locs ls h hl)
theorem z_isub (C : zC x cc own nm nL F L ret) {a b : Int32} (d : decode cc pc = .ok (.isub, 1)) (k : zZ x nL cells slots w V n (pc + 1) lv (.int (a - b) :: st)) : zZ x nL cells slots w V n (pc) lv (.int b :: .int a :: st) := by
  obtain ⟨p, l, e, R, s, m, args, below, meth, c, D, dA, V0, n0, mc, ms⟩ := x
  exact fun H locs ls h hl => lv_isub C.1 C.2.1 d (k H locs ls h hl)
theorem z_imul (C : zC x cc own nm nL F L ret) {a b : Int32} (d : decode cc pc = .ok (.imul, 1)) (k : zZ x nL cells slots w V n (pc + 1) lv (.int (a * b) :: st)) : zZ x nL cells slots w V n (pc) lv (.int b :: .int a :: st) := by
  obtain ⟨p, l, e, R, s, m, args, below, meth, c, D, dA, V0, n0, mc, ms⟩ := x
  exact fun H locs ls h hl => lv_imul C.1 C.2.1 d (k H locs ls h hl)
theorem z_iand (C : zC x cc own nm nL F L ret) {a b : Int32} (d : decode cc pc = .ok (.iand, 1)) (k : zZ x nL cells slots w V n (pc + 1) lv (.int (a &&& b) :: st)) : zZ x nL cells slots w V n (pc) lv (.int b :: .int a :: st) := by
  obtain ⟨p, l, e, R, s, m, args, below, meth, c, D, dA, V0, n0, mc, ms⟩ := x
  exact fun H locs ls h hl => lv_iand C.1 C.2.1 d (k H locs ls h hl)
theorem z_ior (C : zC x cc own nm nL F L ret) {a b : Int32} (d : decode cc pc = .ok (.ior, 1)) (k : zZ x nL cells slots w V n (pc + 1) lv (.int (a ||| b) :: st)) : zZ x nL cells slots w V n (pc) lv (.int b :: .int a :: st) := by
  obtain ⟨p, l, e, R, s, m, args, below, meth, c, D, dA, V0, n0, mc, ms⟩ := x
  exact fun H locs ls h hl => lv_ior C.1 C.2.1 d (k H locs ls h hl)
theorem z_ixor (C : zC x cc own nm nL F L ret) {a b : Int32} (d : decode cc pc = .ok (.ixor, 1)) (k : zZ x nL cells slots w V n (pc + 1) lv (.int (a ^^^ b) :: st)) : zZ x nL cells slots w V n (pc) lv (.int b :: .int a :: st) := by
  obtain ⟨p, l, e, R, s, m, args, below, meth, c, D, dA, V0, n0, mc, ms⟩ := x
  exact fun H locs ls h hl => lv_ixor C.1 C.2.1 d (k H locs ls h hl)
theorem z_ishl (C : zC x cc own nm nL F L ret) {a b : Int32} (d : decode cc pc = .ok (.ishl, 1)) (k : zZ x nL cells slots w V n (pc + 1) lv (.int (a <<< (b &&& 31)) :: st)) : zZ x nL cells slots w V n (pc) lv (.int b :: .int a :: st) := by
  obtain ⟨p, l, e, R, s, m, args, below, meth, c, D, dA, V0, n0, mc, ms⟩ := x
  exact fun H locs ls h hl => lv_ishl C.1 C.2.1 d (k H locs ls h hl)
theorem z_ladd (C : zC x cc own nm nL F L ret) {a b : Int64} (d : decode cc pc = .ok (.ladd, 1)) (k : zZ x nL cells slots w V n (pc + 1) lv (.long (a + b) :: st)) : zZ x nL cells slots w V n (pc) lv (.long b :: .long a :: st) := by
  obtain ⟨p, l, e, R, s, m, args, below, meth, c, D, dA, V0, n0, mc, ms⟩ := x
  exact fun H locs ls h hl => lv_ladd C.1 C.2.1 d (k H locs ls h hl)
theorem z_lsub (C : zC x cc own nm nL F L ret) {a b : Int64} (d : decode cc pc = .ok (.lsub, 1)) (k : zZ x nL cells slots w V n (pc + 1) lv (.long (a - b) :: st)) : zZ x nL cells slots w V n (pc) lv (.long b :: .long a :: st) := by
  obtain ⟨p, l, e, R, s, m, args, below, meth, c, D, dA, V0, n0, mc, ms⟩ := x
  exact fun H locs ls h hl => lv_lsub C.1 C.2.1 d (k H locs ls h hl)
theorem z_lmul (C : zC x cc own nm nL F L ret) {a b : Int64} (d : decode cc pc = .ok (.lmul, 1)) (k : zZ x nL cells slots w V n (pc + 1) lv (.long (a * b) :: st)) : zZ x nL cells slots w V n (pc) lv (.long b :: .long a :: st) := by
  obtain ⟨p, l, e, R, s, m, args, below, meth, c, D, dA, V0, n0, mc, ms⟩ := x
  exact fun H locs ls h hl => lv_lmul C.1 C.2.1 d (k H locs ls h hl)
theorem z_ineg (C : zC x cc own nm nL F L ret) {a : Int32} (d : decode cc pc = .ok (.ineg, 1)) (k : zZ x nL cells slots w V n (pc + 1) lv (.int (-a) :: st)) : zZ x nL cells slots w V n (pc) lv (.int a :: st) := by
  obtain ⟨p, l, e, R, s, m, args, below, meth, c, D, dA, V0, n0, mc, ms⟩ := x
  exact fun H locs ls h hl => lv_ineg C.1 C.2.1 d (k H locs ls h hl)
theorem z_lrem (C : zC x cc own nm nL F L ret) {a b : Int64} (d : decode cc pc = .ok (.lrem, 1)) (hne : ¬ b = 0) (k : zZ x nL cells slots w V n (pc + 1) lv (.long (a - a / b * b) :: st)) : zZ x nL cells slots w V n (pc) lv (.long b :: .long a :: st) := by
  obtain ⟨p, l, e, R, s, m, args, below, meth, c, D, dA, V0, n0, mc, ms⟩ := x
  exact fun H locs ls h hl => lv_lrem C.1 C.2.1 d hne (k H locs ls h hl)
theorem z_irem (C : zC x cc own nm nL F L ret) {a b : Int32} (d : decode cc pc = .ok (.irem, 1)) (hne : ¬ b = 0) (k : zZ x nL cells slots w V n (pc + 1) lv (.int (a - a / b * b) :: st)) : zZ x nL cells slots w V n (pc) lv (.int b :: .int a :: st) := by
  obtain ⟨p, l, e, R, s, m, args, below, meth, c, D, dA, V0, n0, mc, ms⟩ := x
  exact fun H locs ls h hl => lv_irem C.1 C.2.1 d hne (k H locs ls h hl)
theorem z_ldiv (C : zC x cc own nm nL F L ret) {a b : Int64} (d : decode cc pc = .ok (.ldiv, 1)) (hne : ¬ b = 0) (k : zZ x nL cells slots w V n (pc + 1) lv (.long (a / b) :: st)) : zZ x nL cells slots w V n (pc) lv (.long b :: .long a :: st) := by
  obtain ⟨p, l, e, R, s, m, args, below, meth, c, D, dA, V0, n0, mc, ms⟩ := x
  exact fun H locs ls h hl => lv_ldiv C.1 C.2.1 d hne (k H locs ls h hl)
theorem z_idiv (C : zC x cc own nm nL F L ret) {a b : Int32} (d : decode cc pc = .ok (.idiv, 1)) (hne : ¬ b = 0) (k : zZ x nL cells slots w V n (pc + 1) lv (.int (a / b) :: st)) : zZ x nL cells slots w V n (pc) lv (.int b :: .int a :: st) := by
  obtain ⟨p, l, e, R, s, m, args, below, meth, c, D, dA, V0, n0, mc, ms⟩ := x
  exact fun H locs ls h hl => lv_idiv C.1 C.2.1 d hne (k H locs ls h hl)
theorem z_lushr (C : zC x cc own nm nL F L ret) {a : Int64} {b : Int32} (d : decode cc pc = .ok (.lushr, 1)) (k : zZ x nL cells slots w V n (pc + 1) lv (.long (a.toUInt64 >>> (b.toInt64.toUInt64 &&& Int64.toUInt64 63)).toInt64 :: st)) : zZ x nL cells slots w V n (pc) lv (.int b :: .long a :: st) := by
  obtain ⟨p, l, e, R, s, m, args, below, meth, c, D, dA, V0, n0, mc, ms⟩ := x
  exact fun H locs ls h hl => lv_lushr C.1 C.2.1 d rfl (k H locs ls h hl)
theorem z_i2l (C : zC x cc own nm nL F L ret) {a : Int32} (d : decode cc pc = .ok (.i2l, 1)) (k : zZ x nL cells slots w V n (pc + 1) lv (.long a.toInt64 :: st)) : zZ x nL cells slots w V n (pc) lv (.int a :: st) := by
  obtain ⟨p, l, e, R, s, m, args, below, meth, c, D, dA, V0, n0, mc, ms⟩ := x
  exact fun H locs ls h hl => lv_i2l C.1 C.2.1 d rfl (k H locs ls h hl)
theorem z_l2i (C : zC x cc own nm nL F L ret) {a : Int64} (d : decode cc pc = .ok (.l2i, 1)) (k : zZ x nL cells slots w V n (pc + 1) lv (.int a.toInt32 :: st)) : zZ x nL cells slots w V n (pc) lv (.long a :: st) := by
  obtain ⟨p, l, e, R, s, m, args, below, meth, c, D, dA, V0, n0, mc, ms⟩ := x
  exact fun H locs ls h hl => lv_l2i C.1 C.2.1 d rfl (k H locs ls h hl)
theorem z_lcmp (C : zC x cc own nm nL F L ret) {a b : Int64} (d : decode cc pc = .ok (.lcmp, 1)) (k : zZ x nL cells slots w V n (pc + 1) lv (.int (lg_cmp a b) :: st)) : zZ x nL cells slots w V n (pc) lv (.long b :: .long a :: st) := by
  obtain ⟨p, l, e, R, s, m, args, below, meth, c, D, dA, V0, n0, mc, ms⟩ := x
  exact fun H locs ls h hl => W.lcmp C.1 C.2.1 d (k H locs ls h hl)
theorem z_iconst (C : zC x cc own nm nL F L ret) {i : Int} {v : Int32} (d : decode cc pc = .ok (.iconst i, 1)) (hv : Int32.ofInt i = v) (k : zZ x nL cells slots w V n (pc + 1) lv (.int v :: st)) : zZ x nL cells slots w V n (pc) lv st := by
  obtain ⟨p, l, e, R, s, m, args, below, meth, c, D, dA, V0, n0, mc, ms⟩ := x
  exact fun H locs ls h hl => lv_iconst C.1 C.2.1 d hv (k H locs ls h hl)
theorem z_bipush (C : zC x cc own nm nL F L ret) {i : Int} {v : Int32} (d : decode cc pc = .ok (.bipush i, 2)) (hv : (Int8.ofInt i).toInt32 = v) (k : zZ x nL cells slots w V n (pc + 2) lv (.int v :: st)) : zZ x nL cells slots w V n (pc) lv st := by
  obtain ⟨p, l, e, R, s, m, args, below, meth, c, D, dA, V0, n0, mc, ms⟩ := x
  exact fun H locs ls h hl => lv_bipush C.1 C.2.1 d hv (k H locs ls h hl)
theorem z_sipush (C : zC x cc own nm nL F L ret) {i : Int} {v : Int32} (d : decode cc pc = .ok (.sipush i, 3)) (hv : (Int16.ofInt i).toInt32 = v) (k : zZ x nL cells slots w V n (pc + 3) lv (.int v :: st)) : zZ x nL cells slots w V n (pc) lv st := by
  obtain ⟨p, l, e, R, s, m, args, below, meth, c, D, dA, V0, n0, mc, ms⟩ := x
  exact fun H locs ls h hl => lv_sipush C.1 C.2.1 d hv (k H locs ls h hl)
theorem z_lconst (C : zC x cc own nm nL F L ret) {k : Fin 2} {v : Int64} (d : decode cc pc = .ok (.lconst k, 1)) (hv : Int64.ofNat (k : Nat) = v) (k : zZ x nL cells slots w V n (pc + 1) lv (.long v :: st)) : zZ x nL cells slots w V n (pc) lv st := by
  obtain ⟨p, l, e, R, s, m, args, below, meth, c, D, dA, V0, n0, mc, ms⟩ := x
  exact fun H locs ls h hl => lv_lconst C.1 C.2.1 d hv (k H locs ls h hl)
theorem z_ldc (C : zC x cc own nm nL F L ret) {i : Nat} {v : Int32} (d : decode cc pc = .ok (.ldc i, 2)) (hw : Cond.constant own i v ∈ zTs) (k : zZ x nL cells slots w V n (pc + 2) lv (.int v :: st)) : zZ x nL cells slots w V n (pc) lv st := by
  obtain ⟨p, l, e, R, s, m, args, below, meth, c, D, dA, V0, n0, mc, ms⟩ := x
  exact fun H locs ls h hl => lv_ldc C.1 C.2.1 C.2.2.2.1 (C.2.2.2.2.1 _ hw) d (k H locs ls h hl)
theorem z_ldc2 (C : zC x cc own nm nL F L ret) {i : Nat} {v : Int64} (d : decode cc pc = .ok (.ldc2_w i, 3)) (hw : Cond.constantLong own i v ∈ zTs) (k : zZ x nL cells slots w V n (pc + 3) lv (.long v :: st)) : zZ x nL cells slots w V n (pc) lv st := by
  obtain ⟨p, l, e, R, s, m, args, below, meth, c, D, dA, V0, n0, mc, ms⟩ := x
  exact fun H locs ls h hl => lv_ldc2 C.1 C.2.1 C.2.2.2.1 (C.2.2.2.2.1 _ hw) d (k H locs ls h hl)
theorem z_null (C : zC x cc own nm nL F L ret) (d : decode cc pc = .ok (.aconst_null, 1)) (k : zZ x nL cells slots w V n (pc + 1) lv (va_rf none :: st)) : zZ x nL cells slots w V n (pc) lv st := by
  obtain ⟨p, l, e, R, s, m, args, below, meth, c, D, dA, V0, n0, mc, ms⟩ := x
  exact fun H locs ls h hl => lv_null C.1 C.2.1 d (k H locs ls h hl)
theorem z_pop (C : zC x cc own nm nL F L ret) {v : Value} (d : decode cc pc = .ok (.pop, 1)) (hv : v.category = 1) (k : zZ x nL cells slots w V n (pc + 1) lv st) : zZ x nL cells slots w V n (pc) lv (v :: st) := by
  obtain ⟨p, l, e, R, s, m, args, below, meth, c, D, dA, V0, n0, mc, ms⟩ := x
  exact fun H locs ls h hl => lv_pop C.1 C.2.1 d hv (k H locs ls h hl)
theorem z_pop2 (C : zC x cc own nm nL F L ret) {v : Value} (d : decode cc pc = .ok (.pop2, 1)) (hv : v.category = 2) (k : zZ x nL cells slots w V n (pc + 1) lv st) : zZ x nL cells slots w V n (pc) lv (v :: st) := by
  obtain ⟨p, l, e, R, s, m, args, below, meth, c, D, dA, V0, n0, mc, ms⟩ := x
  exact fun H locs ls h hl => lv_pop2_2 C.1 C.2.1 d hv (k H locs ls h hl)
theorem z_dup (C : zC x cc own nm nL F L ret) {v : Value} (d : decode cc pc = .ok (.dup, 1)) (hv : v.category = 1) (k : zZ x nL cells slots w V n (pc + 1) lv (v :: v :: st)) : zZ x nL cells slots w V n (pc) lv (v :: st) := by
  obtain ⟨p, l, e, R, s, m, args, below, meth, c, D, dA, V0, n0, mc, ms⟩ := x
  exact fun H locs ls h hl => lv_dup C.1 C.2.1 d hv (k H locs ls h hl)
theorem z_dup_x1 (C : zC x cc own nm nL F L ret) {v u : Value} (d : decode cc pc = .ok (.dup_x1, 1)) (hv : v.category = 1) (hu : u.category = 1) (k : zZ x nL cells slots w V n (pc + 1) lv (v :: u :: v :: st)) : zZ x nL cells slots w V n (pc) lv (v :: u :: st) := by
  obtain ⟨p, l, e, R, s, m, args, below, meth, c, D, dA, V0, n0, mc, ms⟩ := x
  exact fun H locs ls h hl => lv_dup_x1 C.1 C.2.1 d hv hu (k H locs ls h hl)
theorem z_dup_x2 (C : zC x cc own nm nL F L ret) {v u t : Value} (d : decode cc pc = .ok (.dup_x2, 1)) (hv : v.category = 1) (hu : u.category = 1) (ht : t.category = 1) (k : zZ x nL cells slots w V n (pc + 1) lv (v :: u :: t :: v :: st)) : zZ x nL cells slots w V n (pc) lv (v :: u :: t :: st) := by
  obtain ⟨p, l, e, R, s, m, args, below, meth, c, D, dA, V0, n0, mc, ms⟩ := x
  exact fun H locs ls h hl => lv_dup_x2 C.1 C.2.1 d hv hu ht (k H locs ls h hl)
theorem z_dup2_11 (C : zC x cc own nm nL F L ret) {v u : Value} (d : decode cc pc = .ok (.dup2, 1)) (hv : v.category = 1) (hu : u.category = 1) (k : zZ x nL cells slots w V n (pc + 1) lv (v :: u :: v :: u :: st)) : zZ x nL cells slots w V n (pc) lv (v :: u :: st) := by
  obtain ⟨p, l, e, R, s, m, args, below, meth, c, D, dA, V0, n0, mc, ms⟩ := x
  exact fun H locs ls h hl => lv_dup2_11 C.1 C.2.1 d hv hu (k H locs ls h hl)
theorem z_dup2_2 (C : zC x cc own nm nL F L ret) {v : Value} (d : decode cc pc = .ok (.dup2, 1)) (hv : v.category = 2) (k : zZ x nL cells slots w V n (pc + 1) lv (v :: v :: st)) : zZ x nL cells slots w V n (pc) lv (v :: st) := by
  obtain ⟨p, l, e, R, s, m, args, below, meth, c, D, dA, V0, n0, mc, ms⟩ := x
  exact fun H locs ls h hl => lv_dup2_2 C.1 C.2.1 d hv (k H locs ls h hl)
end ZR
section ZS
variable {x : zX} {cc : ByteArray} {own nm : String} {nL F L : Nat} {ret : Option FieldType} {cells slots : Nat} {w : zR} {V : zV} {n pc : Nat} {lv lv' : List (Nat × Value)} {st : List Value}
theorem z_iload_n (C : zC x cc own nm nL F L ret) {k : Fin 4} {i : Nat} {a : Int32} (q : Nat) (d : decode cc pc = .ok (.iload_n k, 1)) (hi : (k : Nat) = i) (hq : lv[q]? = some (i, .int a)) (k9 : zZ x nL cells slots w V n (pc + 1) lv (.int a :: st)) : zZ x nL cells slots w V n pc lv st := by
  obtain ⟨p, l, e, R, s, m, args, below, meth, c, D, dA, V0, n0, mc, ms⟩ := x
  exact fun H locs ls h hl => lv_iload_n C.1 C.2.1 d hi (lv_at hl q hq) (k9 H locs ls h hl)
theorem z_iload (C : zC x cc own nm nL F L ret) {i : Nat} {a : Int32} (q : Nat) (d : decode cc pc = .ok (.iload i, 2)) (hq : lv[q]? = some (i, .int a)) (k9 : zZ x nL cells slots w V n (pc + 2) lv (.int a :: st)) : zZ x nL cells slots w V n pc lv st := by
  obtain ⟨p, l, e, R, s, m, args, below, meth, c, D, dA, V0, n0, mc, ms⟩ := x
  exact fun H locs ls h hl => lv_iload C.1 C.2.1 d (lv_at hl q hq) (k9 H locs ls h hl)
theorem z_lload_n (C : zC x cc own nm nL F L ret) {k : Fin 4} {i : Nat} {a : Int64} (q : Nat) (d : decode cc pc = .ok (.lload_n k, 1)) (hi : (k : Nat) = i) (hq : lv[q]? = some (i, .long a)) (k9 : zZ x nL cells slots w V n (pc + 1) lv (.long a :: st)) : zZ x nL cells slots w V n pc lv st := by
  obtain ⟨p, l, e, R, s, m, args, below, meth, c, D, dA, V0, n0, mc, ms⟩ := x
  exact fun H locs ls h hl => lv_lload_n C.1 C.2.1 d hi (lv_at hl q hq) (k9 H locs ls h hl)
theorem z_lload (C : zC x cc own nm nL F L ret) {i : Nat} {a : Int64} (q : Nat) (d : decode cc pc = .ok (.lload i, 2)) (hq : lv[q]? = some (i, .long a)) (k9 : zZ x nL cells slots w V n (pc + 2) lv (.long a :: st)) : zZ x nL cells slots w V n pc lv st := by
  obtain ⟨p, l, e, R, s, m, args, below, meth, c, D, dA, V0, n0, mc, ms⟩ := x
  exact fun H locs ls h hl => lv_lload C.1 C.2.1 d (lv_at hl q hq) (k9 H locs ls h hl)
theorem z_aload_n (C : zC x cc own nm nL F L ret) {k : Fin 4} {i : Nat} {r : Option Nat} (q : Nat) (d : decode cc pc = .ok (.aload_n k, 1)) (hi : (k : Nat) = i) (hq : lv[q]? = some (i, va_rf r)) (k9 : zZ x nL cells slots w V n (pc + 1) lv (va_rf r :: st)) : zZ x nL cells slots w V n pc lv st := by
  obtain ⟨p, l, e, R, s, m, args, below, meth, c, D, dA, V0, n0, mc, ms⟩ := x
  intro H locs ls h hl
  cases r with
  | none => exact lv_aload_nN C.1 C.2.1 d hi (lv_at hl q hq) (k9 H locs ls h hl)
  | some a => exact lv_aload_n C.1 C.2.1 d hi (lv_at hl q hq) (k9 H locs ls h hl)
theorem z_aload (C : zC x cc own nm nL F L ret) {i : Nat} {r : Option Nat} (q : Nat) (d : decode cc pc = .ok (.aload i, 2)) (hq : lv[q]? = some (i, va_rf r)) (k9 : zZ x nL cells slots w V n (pc + 2) lv (va_rf r :: st)) : zZ x nL cells slots w V n pc lv st := by
  obtain ⟨p, l, e, R, s, m, args, below, meth, c, D, dA, V0, n0, mc, ms⟩ := x
  intro H locs ls h hl
  cases r with
  | none => exact lv_aloadN C.1 C.2.1 d (lv_at hl q hq) (k9 H locs ls h hl)
  | some a => exact lv_aload C.1 C.2.1 d (lv_at hl q hq) (k9 H locs ls h hl)
theorem z_istore_n (C : zC x cc own nm nL F L ret) {k : Fin 4} {i : Nat} {a : Int32} (d : decode cc pc = .ok (.istore_n k, 1)) (hi : (k : Nat) = i) (hn : i < nL) (hl' : (i, Value.int a) :: lv.filter (fun q => !(q.1 == i) && !(q.1 + 1 == i && q.2.category == 2)) = lv') (k9 : zZ x nL cells slots w V n (pc + 1) lv' st) : zZ x nL cells slots w V n pc lv (.int a :: st) := by
  obtain ⟨p, l, e, R, s, m, args, below, meth, c, D, dA, V0, n0, mc, ms⟩ := x
  exact fun H locs ls h hl => lv_istore_n C.1 C.2.1 d hi hl hn hl' (fun ls' h' => k9 H locs ls' h h')
theorem z_istore (C : zC x cc own nm nL F L ret) {i : Nat} {a : Int32} (d : decode cc pc = .ok (.istore i, 2)) (hn : i < nL) (hl' : (i, Value.int a) :: lv.filter (fun q => !(q.1 == i) && !(q.1 + 1 == i && q.2.category == 2)) = lv') (k9 : zZ x nL cells slots w V n (pc + 2) lv' st) : zZ x nL cells slots w V n pc lv (.int a :: st) := by
  obtain ⟨p, l, e, R, s, m, args, below, meth, c, D, dA, V0, n0, mc, ms⟩ := x
  exact fun H locs ls h hl => lv_istore C.1 C.2.1 d hl hn hl' (fun ls' h' => k9 H locs ls' h h')
theorem z_lstore_n (C : zC x cc own nm nL F L ret) {k : Fin 4} {i : Nat} {a : Int64} (d : decode cc pc = .ok (.lstore_n k, 1)) (hi : (k : Nat) = i) (hn : i + 1 < nL) (hl' : (i, Value.long a) :: lv.filter (fun q => !(q.1 == i) && (!(q.1 == i + 1) && !(q.1 + 1 == i && q.2.category == 2))) = lv') (k9 : zZ x nL cells slots w V n (pc + 1) lv' st) : zZ x nL cells slots w V n pc lv (.long a :: st) := by
  obtain ⟨p, l, e, R, s, m, args, below, meth, c, D, dA, V0, n0, mc, ms⟩ := x
  exact fun H locs ls h hl => lv_lstore_n C.1 C.2.1 d hi hl hn hl' (fun ls' h' => k9 H locs ls' h h')
theorem z_lstore (C : zC x cc own nm nL F L ret) {i : Nat} {a : Int64} (d : decode cc pc = .ok (.lstore i, 2)) (hn : i + 1 < nL) (hl' : (i, Value.long a) :: lv.filter (fun q => !(q.1 == i) && (!(q.1 == i + 1) && !(q.1 + 1 == i && q.2.category == 2))) = lv') (k9 : zZ x nL cells slots w V n (pc + 2) lv' st) : zZ x nL cells slots w V n pc lv (.long a :: st) := by
  obtain ⟨p, l, e, R, s, m, args, below, meth, c, D, dA, V0, n0, mc, ms⟩ := x
  exact fun H locs ls h hl => lv_lstore C.1 C.2.1 d hl hn hl' (fun ls' h' => k9 H locs ls' h h')
theorem z_astore_n (C : zC x cc own nm nL F L ret) {k : Fin 4} {i : Nat} {r : Option Nat} (d : decode cc pc = .ok (.astore_n k, 1)) (hi : (k : Nat) = i) (hn : i < nL) (hl' : (i, va_rf r) :: lv.filter (fun q => !(q.1 == i) && !(q.1 + 1 == i && q.2.category == 2)) = lv') (k9 : zZ x nL cells slots w V n (pc + 1) lv' st) : zZ x nL cells slots w V n pc lv (va_rf r :: st) := by
  obtain ⟨p, l, e, R, s, m, args, below, meth, c, D, dA, V0, n0, mc, ms⟩ := x
  intro H locs ls h hl
  cases r with
  | none => exact lv_astore_nN C.1 C.2.1 d hi hl hn hl' (fun ls' h' => k9 H locs ls' h h')
  | some a => exact lv_astore_n C.1 C.2.1 d hi hl hn hl' (fun ls' h' => k9 H locs ls' h h')
theorem z_astore (C : zC x cc own nm nL F L ret) {i : Nat} {r : Option Nat} (d : decode cc pc = .ok (.astore i, 2)) (hn : i < nL) (hl' : (i, va_rf r) :: lv.filter (fun q => !(q.1 == i) && !(q.1 + 1 == i && q.2.category == 2)) = lv') (k9 : zZ x nL cells slots w V n (pc + 2) lv' st) : zZ x nL cells slots w V n pc lv (va_rf r :: st) := by
  obtain ⟨p, l, e, R, s, m, args, below, meth, c, D, dA, V0, n0, mc, ms⟩ := x
  intro H locs ls h hl
  cases r with
  | none => exact lv_astoreN C.1 C.2.1 d hl hn hl' (fun ls' h' => k9 H locs ls' h h')
  | some a => exact lv_astore C.1 C.2.1 d hl hn hl' (fun ls' h' => k9 H locs ls' h h')
theorem z_iinc (C : zC x cc own nm nL F L ret) {i : Nat} {j : Int} {a b : Int32} (q : Nat) (d : decode cc pc = .ok (.iinc i j, 3)) (hq : lv[q]? = some (i, .int a)) (hb : a + Int32.ofInt j = b) (hn : i < nL) (hl' : (i, Value.int b) :: lv.filter (fun q => !(q.1 == i) && !(q.1 + 1 == i && q.2.category == 2)) = lv') (k9 : zZ x nL cells slots w V n (pc + 3) lv' st) : zZ x nL cells slots w V n pc lv st := by
  obtain ⟨p, l, e, R, s, m, args, below, meth, c, D, dA, V0, n0, mc, ms⟩ := x
  exact fun H locs ls h hl => lv_iinc C.1 C.2.1 d hl hq hb hn hl' (fun ls' h' => k9 H locs ls' h h')
theorem z_sub (ks : List Nat) (hk : lv_pick lv ks = lv') (k9 : zZ x nL cells slots w V n pc lv' st) : zZ x nL cells slots w V n pc lv st := by
  obtain ⟨p, l, e, R, s, m, args, below, meth, c, D, dA, V0, n0, mc, ms⟩ := x
  exact fun H locs ls h hl => k9 H locs ls h (lv_sub hl ks hk)
theorem z_widen {c2 s2 : Nat} (h1 : cells ≤ c2) (h2 : slots ≤ s2) (k9 : zZ x nL c2 s2 w V n pc lv st) : zZ x nL cells slots w V n pc lv st := by
  obtain ⟨p, l, e, R, s, m, args, below, meth, c, D, dA, V0, n0, mc, ms⟩ := x
  exact fun H locs ls h hl => W.widen h1 h2 (k9 H locs ls h hl)
theorem z_goto (C : zC x cc own nm nL F L ret) {off : Int} (tgt : Nat) (d : decode cc pc = .ok (.goto off, 3)) (ht : (pc : Int) + off = (tgt : Int)) (k9 : zZ x nL cells slots w V n tgt lv st) : zZ x nL cells slots w V n pc lv st := by
  obtain ⟨p, l, e, R, s, m, args, below, meth, c, D, dA, V0, n0, mc, ms⟩ := x
  exact fun H locs ls h hl => lv_goto C.1 C.2.1 d ht (k9 H locs ls h hl)
theorem z_if_eq (C : zC x cc own nm nL F L ret) {a : Int32} {off : Int} {A B : Option zR} (tgt : Nat) (d : decode cc pc = .ok (.ifCond .eq off, 3)) (ht : (pc : Int) + off = (tgt : Int)) (h : (if a = 0 then A else B) = some w) (kt : A = some w → zZ x nL cells slots w V n tgt lv st) (kf : B = some w → zZ x nL cells slots w V n (pc + 3) lv st) : zZ x nL cells slots w V n pc lv (.int a :: st) := by
  obtain ⟨p, l, e, R, s, m, args, below, meth, c, D, dA, V0, n0, mc, ms⟩ := x
  exact fun H locs ls h0 hl => lv_if_eq C.1 C.2.1 d ht (fun q => kt (by rw [if_pos q] at h; exact h) H locs ls h0 hl) (fun q => kf (by rw [if_neg q] at h; exact h) H locs ls h0 hl)
theorem z_icmp_eq (C : zC x cc own nm nL F L ret) {a b : Int32} {off : Int} {A B : Option zR} (tgt : Nat) (d : decode cc pc = .ok (.if_icmp .eq off, 3)) (ht : (pc : Int) + off = (tgt : Int)) (h : (if a = b then A else B) = some w) (kt : A = some w → zZ x nL cells slots w V n tgt lv st) (kf : B = some w → zZ x nL cells slots w V n (pc + 3) lv st) : zZ x nL cells slots w V n pc lv (.int b :: .int a :: st) := by
  obtain ⟨p, l, e, R, s, m, args, below, meth, c, D, dA, V0, n0, mc, ms⟩ := x
  exact fun H locs ls h0 hl => lv_icmp_eq C.1 C.2.1 d ht (fun q => kt (by rw [if_pos q] at h; exact h) H locs ls h0 hl) (fun q => kf (by rw [if_neg q] at h; exact h) H locs ls h0 hl)
theorem z_if_ne (C : zC x cc own nm nL F L ret) {a : Int32} {off : Int} {A B : Option zR} (tgt : Nat) (d : decode cc pc = .ok (.ifCond .ne off, 3)) (ht : (pc : Int) + off = (tgt : Int)) (h : (if a = 0 then B else A) = some w) (kt : A = some w → zZ x nL cells slots w V n tgt lv st) (kf : B = some w → zZ x nL cells slots w V n (pc + 3) lv st) : zZ x nL cells slots w V n pc lv (.int a :: st) := by
  obtain ⟨p, l, e, R, s, m, args, below, meth, c, D, dA, V0, n0, mc, ms⟩ := x
  exact fun H locs ls h0 hl => lv_if_ne C.1 C.2.1 d ht (fun q => kt (by rw [if_neg q] at h; exact h) H locs ls h0 hl) (fun q => kf (by rw [if_pos q] at h; exact h) H locs ls h0 hl)
theorem z_icmp_ne (C : zC x cc own nm nL F L ret) {a b : Int32} {off : Int} {A B : Option zR} (tgt : Nat) (d : decode cc pc = .ok (.if_icmp .ne off, 3)) (ht : (pc : Int) + off = (tgt : Int)) (h : (if a = b then B else A) = some w) (kt : A = some w → zZ x nL cells slots w V n tgt lv st) (kf : B = some w → zZ x nL cells slots w V n (pc + 3) lv st) : zZ x nL cells slots w V n pc lv (.int b :: .int a :: st) := by
  obtain ⟨p, l, e, R, s, m, args, below, meth, c, D, dA, V0, n0, mc, ms⟩ := x
  exact fun H locs ls h0 hl => lv_icmp_ne C.1 C.2.1 d ht (fun q => kt (by rw [if_neg q] at h; exact h) H locs ls h0 hl) (fun q => kf (by rw [if_pos q] at h; exact h) H locs ls h0 hl)
theorem z_if_lt (C : zC x cc own nm nL F L ret) {a : Int32} {off : Int} {A B : Option zR} (tgt : Nat) (d : decode cc pc = .ok (.ifCond .lt off, 3)) (ht : (pc : Int) + off = (tgt : Int)) (h : (if a < 0 then A else B) = some w) (kt : A = some w → zZ x nL cells slots w V n tgt lv st) (kf : B = some w → zZ x nL cells slots w V n (pc + 3) lv st) : zZ x nL cells slots w V n pc lv (.int a :: st) := by
  obtain ⟨p, l, e, R, s, m, args, below, meth, c, D, dA, V0, n0, mc, ms⟩ := x
  exact fun H locs ls h0 hl => lv_if_lt C.1 C.2.1 d ht (fun q => kt (by rw [if_pos q] at h; exact h) H locs ls h0 hl) (fun q => kf (by rw [if_neg q] at h; exact h) H locs ls h0 hl)
theorem z_icmp_lt (C : zC x cc own nm nL F L ret) {a b : Int32} {off : Int} {A B : Option zR} (tgt : Nat) (d : decode cc pc = .ok (.if_icmp .lt off, 3)) (ht : (pc : Int) + off = (tgt : Int)) (h : (if a < b then A else B) = some w) (kt : A = some w → zZ x nL cells slots w V n tgt lv st) (kf : B = some w → zZ x nL cells slots w V n (pc + 3) lv st) : zZ x nL cells slots w V n pc lv (.int b :: .int a :: st) := by
  obtain ⟨p, l, e, R, s, m, args, below, meth, c, D, dA, V0, n0, mc, ms⟩ := x
  exact fun H locs ls h0 hl => lv_icmp_lt C.1 C.2.1 d ht (fun q => kt (by rw [if_pos q] at h; exact h) H locs ls h0 hl) (fun q => kf (by rw [if_neg q] at h; exact h) H locs ls h0 hl)
theorem z_if_ge (C : zC x cc own nm nL F L ret) {a : Int32} {off : Int} {A B : Option zR} (tgt : Nat) (d : decode cc pc = .ok (.ifCond .ge off, 3)) (ht : (pc : Int) + off = (tgt : Int)) (h : (if 0 ≤ a then A else B) = some w) (kt : A = some w → zZ x nL cells slots w V n tgt lv st) (kf : B = some w → zZ x nL cells slots w V n (pc + 3) lv st) : zZ x nL cells slots w V n pc lv (.int a :: st) := by
  obtain ⟨p, l, e, R, s, m, args, below, meth, c, D, dA, V0, n0, mc, ms⟩ := x
  exact fun H locs ls h0 hl => lv_if_ge C.1 C.2.1 d ht (fun q => kt (by rw [if_pos q] at h; exact h) H locs ls h0 hl) (fun q => kf (by rw [if_neg q] at h; exact h) H locs ls h0 hl)
theorem z_icmp_ge (C : zC x cc own nm nL F L ret) {a b : Int32} {off : Int} {A B : Option zR} (tgt : Nat) (d : decode cc pc = .ok (.if_icmp .ge off, 3)) (ht : (pc : Int) + off = (tgt : Int)) (h : (if b ≤ a then A else B) = some w) (kt : A = some w → zZ x nL cells slots w V n tgt lv st) (kf : B = some w → zZ x nL cells slots w V n (pc + 3) lv st) : zZ x nL cells slots w V n pc lv (.int b :: .int a :: st) := by
  obtain ⟨p, l, e, R, s, m, args, below, meth, c, D, dA, V0, n0, mc, ms⟩ := x
  exact fun H locs ls h0 hl => lv_icmp_ge C.1 C.2.1 d ht (fun q => kt (by rw [if_pos q] at h; exact h) H locs ls h0 hl) (fun q => kf (by rw [if_neg q] at h; exact h) H locs ls h0 hl)
theorem z_if_gt (C : zC x cc own nm nL F L ret) {a : Int32} {off : Int} {A B : Option zR} (tgt : Nat) (d : decode cc pc = .ok (.ifCond .gt off, 3)) (ht : (pc : Int) + off = (tgt : Int)) (h : (if 0 < a then A else B) = some w) (kt : A = some w → zZ x nL cells slots w V n tgt lv st) (kf : B = some w → zZ x nL cells slots w V n (pc + 3) lv st) : zZ x nL cells slots w V n pc lv (.int a :: st) := by
  obtain ⟨p, l, e, R, s, m, args, below, meth, c, D, dA, V0, n0, mc, ms⟩ := x
  exact fun H locs ls h0 hl => lv_if_gt C.1 C.2.1 d ht (fun q => kt (by rw [if_pos q] at h; exact h) H locs ls h0 hl) (fun q => kf (by rw [if_neg q] at h; exact h) H locs ls h0 hl)
theorem z_icmp_gt (C : zC x cc own nm nL F L ret) {a b : Int32} {off : Int} {A B : Option zR} (tgt : Nat) (d : decode cc pc = .ok (.if_icmp .gt off, 3)) (ht : (pc : Int) + off = (tgt : Int)) (h : (if b < a then A else B) = some w) (kt : A = some w → zZ x nL cells slots w V n tgt lv st) (kf : B = some w → zZ x nL cells slots w V n (pc + 3) lv st) : zZ x nL cells slots w V n pc lv (.int b :: .int a :: st) := by
  obtain ⟨p, l, e, R, s, m, args, below, meth, c, D, dA, V0, n0, mc, ms⟩ := x
  exact fun H locs ls h0 hl => lv_icmp_gt C.1 C.2.1 d ht (fun q => kt (by rw [if_pos q] at h; exact h) H locs ls h0 hl) (fun q => kf (by rw [if_neg q] at h; exact h) H locs ls h0 hl)
theorem z_if_le (C : zC x cc own nm nL F L ret) {a : Int32} {off : Int} {A B : Option zR} (tgt : Nat) (d : decode cc pc = .ok (.ifCond .le off, 3)) (ht : (pc : Int) + off = (tgt : Int)) (h : (if a ≤ 0 then A else B) = some w) (kt : A = some w → zZ x nL cells slots w V n tgt lv st) (kf : B = some w → zZ x nL cells slots w V n (pc + 3) lv st) : zZ x nL cells slots w V n pc lv (.int a :: st) := by
  obtain ⟨p, l, e, R, s, m, args, below, meth, c, D, dA, V0, n0, mc, ms⟩ := x
  exact fun H locs ls h0 hl => lv_if_le C.1 C.2.1 d ht (fun q => kt (by rw [if_pos q] at h; exact h) H locs ls h0 hl) (fun q => kf (by rw [if_neg q] at h; exact h) H locs ls h0 hl)
theorem z_icmp_le (C : zC x cc own nm nL F L ret) {a b : Int32} {off : Int} {A B : Option zR} (tgt : Nat) (d : decode cc pc = .ok (.if_icmp .le off, 3)) (ht : (pc : Int) + off = (tgt : Int)) (h : (if a ≤ b then A else B) = some w) (kt : A = some w → zZ x nL cells slots w V n tgt lv st) (kf : B = some w → zZ x nL cells slots w V n (pc + 3) lv st) : zZ x nL cells slots w V n pc lv (.int b :: .int a :: st) := by
  obtain ⟨p, l, e, R, s, m, args, below, meth, c, D, dA, V0, n0, mc, ms⟩ := x
  exact fun H locs ls h0 hl => lv_icmp_le C.1 C.2.1 d ht (fun q => kt (by rw [if_pos q] at h; exact h) H locs ls h0 hl) (fun q => kf (by rw [if_neg q] at h; exact h) H locs ls h0 hl)
end ZS
