theorem zicat (v : Int32) : (Value.int v).category = 1 := rfl
theorem zlcat (v : Int64) : (Value.long v).category = 2 := rfl
theorem z_ishr {x : zX} {cc : ByteArray} {own nm : String} {nL F L : Nat} {ret : Option FieldType} {cells slots : Nat} {w : zR} {V : zV} {n pc : Nat} {lv : List (Nat × Value)} {st : List Value} (C : zC x cc own nm nL F L ret) {a b : Int32} (d : decode cc pc = .ok (.ishr, 1)) (k : zZ x nL cells slots w V n (pc + 1) lv (.int (a >>> (b &&& 31)) :: st)) : zZ x nL cells slots w V n pc lv (.int b :: .int a :: st) := by
  obtain ⟨p, l, e, R, s, m, args, below, meth, c, D, dA, V0, n0, mc, ms⟩ := x
  exact fun H locs ls h hl => lv_ishr C.1 C.2.1 d (k H locs ls h hl)
