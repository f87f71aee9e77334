/-! ENDS OF A METHOD: its answer, or what it throws; its room (MC cells, MS slots) -/
def zM (x : zX) (MC MS : Nat) : Prop := match x with
  | (_, _, _, _, _, _, _, _, _, _, _, _, _, _, mc, ms) => mc = MC ∧ ms = MS
/-- a method that makes nothing but what it throws -/
def zc (w : zR) : Nat := match w.1 with
  | .inl _ => 0
  | .inr _ => 1
def zs (w : zR) : Nat := match w.1 with
  | .inl _ => 0
  | .inr _ => 6
def zrI (v : Int32) (V : zV) (n : Nat) : Option zR := some (.inl (some (.int v)), V, n)
def zrZ (v : Int32) (V : zV) (n : Nat) : Option zR := if v = 0 ∨ v = 1 then some (.inl (some (.int v)), V, n) else none
def zrL (v : Int64) (V : zV) (n : Nat) : Option zR := some (.inl (some (.long v)), V, n)
def zrR (v : Option Nat) (V : zV) (n : Nat) : Option zR := some (.inl (some (va_rf v)), V, n)
def zrV (V : zV) (n : Nat) : Option zR := some (.inl none, V, n)
def zth (E : String) (V : zV) (n : Nat) : Option zR := some (.inr E, V, n)
def znames : List String := ["java/lang/RuntimeException", "java/lang/Exception"]
def zThr (own : String) (ik is ic : Nat) (cls text : String) : Prop := Bundle.fit cls = true ∧ Cond.classLink own ik cls ∈ zTs ∧ Cond.initialized cls ∈ zTs ∧ (own, is, text) ∈ zstr ∧ (cls, cls) ∈ zcast ∧ (∀ w ∈ vx_atS own ic cls znames, w ∈ zTs ∨ w = .castable cls cls ∨ w ∈ zdecl.map Cond.declares) ∧ (∀ w ∈ Cond.classLink own ik cls :: Cond.initialized cls :: vx_atS own ic cls znames, vx_ot w = true)
theorem znames_fit : ∀ q ∈ znames, Bundle.fit q = true := by decide +kernel
theorem z_WH {D : va_G} {dA : Nat → ClassId} {V0 V : zV} {n0 n : Nat} {s t : State} {H : Heap} {locs : List Loc} (h : z_H D dA zcl (z_A V0 n0) s.heap V n H locs) (ht : t.heap = H) : z_W D dA V0 n0 V s t := ⟨by rw [ht]; exact h.2.2.1, h.2.2.2, h.1.F ht⟩
section ZE
variable {x : zX} {cc : ByteArray} {own nm : String} {nL F L MC MS : Nat} {ret : Option FieldType} {cells slots : Nat} {w : zR} {V : zV} {n pc : Nat} {lv lv' : List (Nat × Value)} {st : List Value}
theorem z_iret (C : zC x cc own nm nL F L (some .int)) (M : zM x MC MS) (hc : cells ≤ MC) (hs : slots ≤ MS) (d : decode cc pc = .ok (.ireturn, 1)) {v : Int32} (h : zrI v V n = some w) : zZ x nL cells slots w V n pc lv [.int v] := by
  have h := Option.some.inj h
  subst h
  obtain ⟨p, l, e, R, s, m, args, below, meth, c, D, dA, V0, n0, mc, ms⟩ := x
  obtain ⟨hx, hb, hml, hown, hts, hK, hn0, hlocks, hr, -⟩ := C
  obtain ⟨rfl, rfl⟩ := M
  exact fun H locs ls hH hls => W.widen hc hs (vx_ret (W.iret hx hb hr (fun t ht hW => ⟨_, rfl, rfl, by rw [ht]; exact hH.2.1, z_WH hH ht⟩) hH.1.2.2 d))
theorem z_zret (C : zC x cc own nm nL F L (some .boolean)) (M : zM x MC MS) (hc : cells ≤ MC) (hs : slots ≤ MS) (d : decode cc pc = .ok (.ireturn, 1)) {v : Int32} (h : zrZ v V n = some w) : zZ x nL cells slots w V n pc lv [.int v] := by
  unfold zrZ at h
  by_cases hv : v = 0 ∨ v = 1
  · rw [if_pos hv] at h
    have h := Option.some.inj h
    subst h
    obtain ⟨p, l, e, R, s, m, args, below, meth, c, D, dA, V0, n0, mc, ms⟩ := x
    obtain ⟨hx, hb, hml, hown, hts, hK, hn0, hlocks, hr, -⟩ := C
    obtain ⟨rfl, rfl⟩ := M
    exact fun H locs ls hH hls => W.widen hc hs (vx_ret (W.zret hx hb hr (by rcases hv with rfl | rfl <;> rfl) (fun t ht hW => ⟨_, rfl, rfl, by rw [ht]; exact hH.2.1, z_WH hH ht⟩) hH.1.2.2 d))
  · rw [if_neg hv] at h; cases h
theorem z_lret (C : zC x cc own nm nL F L (some .long)) (M : zM x MC MS) (hc : cells ≤ MC) (hs : slots ≤ MS) (d : decode cc pc = .ok (.lreturn, 1)) {v : Int64} (h : zrL v V n = some w) : zZ x nL cells slots w V n pc lv [.long v] := by
  have h := Option.some.inj h
  subst h
  obtain ⟨p, l, e, R, s, m, args, below, meth, c, D, dA, V0, n0, mc, ms⟩ := x
  obtain ⟨hx, hb, hml, hown, hts, hK, hn0, hlocks, hr, -⟩ := C
  obtain ⟨rfl, rfl⟩ := M
  exact fun H locs ls hH hls => W.widen hc hs (vx_ret (W.lret hx hb hr (fun t ht hW => ⟨_, rfl, rfl, by rw [ht]; exact hH.2.1, z_WH hH ht⟩) hH.1.2.2 d))
theorem z_vret (C : zC x cc own nm nL F L none) (M : zM x MC MS) (hc : cells ≤ MC) (hs : slots ≤ MS) (d : decode cc pc = .ok (.return_, 1)) (h : zrV V n = some w) : zZ x nL cells slots w V n pc lv [] := by
  have h := Option.some.inj h
  subst h
  obtain ⟨p, l, e, R, s, m, args, below, meth, c, D, dA, V0, n0, mc, ms⟩ := x
  obtain ⟨hx, hb, hml, hown, hts, hK, hn0, hlocks, hr, -⟩ := C
  obtain ⟨rfl, rfl⟩ := M
  exact fun H locs ls hH hls => W.widen hc hs (vx_ret (W.vret hx hb hr (fun t ht hW => ⟨_, rfl, rfl, by rw [ht]; exact hH.2.1, z_WH hH ht⟩) hH.1.2.2 d))
theorem z_aret {E : String} (C : zC x cc own nm nL F L (some (.object E))) (M : zM x MC MS) (hc : cells ≤ MC) (hs : slots ≤ MS) (d : decode cc pc = .ok (.areturn, 1)) {v : Option Nat} (h : zrR v V n = some w) : zZ x nL cells slots w V n pc lv [va_rf v] := by
  have h := Option.some.inj h
  subst h
  obtain ⟨p, l, e, R, s, m, args, below, meth, c, D, dA, V0, n0, mc, ms⟩ := x
  obtain ⟨hx, hb, hml, hown, hts, hK, hn0, hlocks, hr, -⟩ := C
  obtain ⟨rfl, rfl⟩ := M
  exact fun H locs ls hH hls => W.widen hc hs (vx_ret (W.aret hx hb hr (Or.inl ⟨_, rfl⟩) (by cases v with | none => exact Or.inl rfl | some a => exact Or.inr ⟨a, rfl⟩) (fun t ht hW => ⟨_, rfl, rfl, by rw [ht]; exact hH.2.1, z_WH hH ht⟩) hH.1.2.2 d))
theorem z_XCt {D : va_G} {dA : Nat → ClassId} {V0 : zV} {n0 : Nat} {s t : State} {H : Heap} {locs : List Loc} {cls : String} (hH : z_H D dA zcl (z_A V0 n0) s.heap V n H locs) (h1 : H.size ≤ t.heap.size) (h2 : ∀ q : Nat, q < H.size → t.heap[q]? = H[q]?) : z_XC D dA V0 n0 (.inr cls, V, n) cls s t := by
  refine ⟨rfl, fun a y ha => (hH.2.2.1 a y ha).kept (h2 a (hH.2.2.1.lt ha)), hH.2.2.2, Nat.le_trans hH.1.1 h1, fun q g1 g2 => ?_⟩
  rw [h2 q (Nat.lt_of_lt_of_le g1 hH.1.1)]
  exact hH.1.2.1 q g1 g2
theorem z_hat {A : Nat → Prop} {s : State} {args : Array Value} {own cls : String} {ic : Nat} (hts : ∀ w ∈ zTs, w.before args s = true) (hT : zT A s) (hc : (cls, cls) ∈ zcast) (h : ∀ w ∈ vx_atS own ic cls znames, w ∈ zTs ∨ w = .castable cls cls ∨ w ∈ zdecl.map Cond.declares) : ∀ w ∈ vx_atS own ic cls znames, w.before args s = true := by
  intro w hw
  rcases h w hw with h | h | h
  · exact hts w h
  · rw [h]; exact va_Nw.use rfl (hT.2.2.2.2.1 _ hc)
  · obtain ⟨y, hy, e⟩ := List.mem_map.mp h
    rw [← e]; exact va_Nw.use rfl (hT.2.2.2.2.2.1 _ hy)
theorem z_throwS (C : zC x cc own nm nL F L ret) (M : zM x MC MS) {ik is ic : Nat} {cls text : String} (hq : zThr own ik is ic cls text) (hF : 5 < F) (hL : (st.map fun v => v.category).sum + 82 ≤ L) (hc : cells + 1 ≤ MC) (hs : slots + 6 ≤ MS)
    (d0 : decode cc pc = .ok (.new ik, 3)) (d3 : decode cc (pc + 3) = .ok (.dup, 1)) (d4 : decode cc (pc + 4) = .ok (.ldc is, 2)) (d6 : decode cc (pc + 6) = .ok (.invokespecial ic, 3)) (d9 : decode cc (pc + 9) = .ok (.athrow, 1)) (h : zth cls V n = some w) : zZ x nL cells slots w V n pc lv st := by
  have h := Option.some.inj h
  subst h
  obtain ⟨p, l, e, R, s, m, args, below, meth, c, D, dA, V0, n0, mc, ms⟩ := x
  obtain ⟨hx, hb, hml, hown, hts, hK, hn0, hlocks, hr, hnm, hout, hl, hR⟩ := C
  obtain ⟨rfl, rfl⟩ := M
  obtain ⟨q1, q2, q3, q4, q5, q6, q7⟩ := hq
  obtain ⟨sa, hstr⟩ := hK.2.2.2.2.1 _ q4
  exact fun H locs ls hH hls => vx_throwS hx hb hl hown q1 znames_fit (hts _ q2) (hts _ q3) hstr (z_hat hts hK.2.2 q5 q6) q7 hK.2.2.1 hK.2.2.2.1 hH.1 (hls.1.trans hml.symm) d0 d3 d4 d6 d9 (fun y hy => (hout y hy).elim) (by rw [hR]; exact hF) (by rw [hR]; exact hL) (by rw [hR]; exact hc) (by rw [hR]; exact hs) hlocks (fun t h0 h1 h2 => z_XCt hH h1 h2) hH.1.2.2 hc hs
theorem z_throwSW (C : zC x cc own nm nL F L ret) (M : zM x MC MS) {ik is ic : Nat} {cls text : String} (hq : zThr own ik is ic cls text) (hF : 5 < F) (hL : (st.map fun v => v.category).sum + 82 ≤ L) (hc : cells + 1 ≤ MC) (hs : slots + 6 ≤ MS)
    (d0 : decode cc pc = .ok (.new ik, 3)) (d3 : decode cc (pc + 3) = .ok (.dup, 1)) (d4 : decode cc (pc + 4) = .ok (.ldc_w is, 3)) (d7 : decode cc (pc + 7) = .ok (.invokespecial ic, 3)) (d10 : decode cc (pc + 10) = .ok (.athrow, 1)) (h : zth cls V n = some w) : zZ x nL cells slots w V n pc lv st := by
  have h := Option.some.inj h
  subst h
  obtain ⟨p, l, e, R, s, m, args, below, meth, c, D, dA, V0, n0, mc, ms⟩ := x
  obtain ⟨hx, hb, hml, hown, hts, hK, hn0, hlocks, hr, hnm, hout, hl, hR⟩ := C
  obtain ⟨rfl, rfl⟩ := M
  obtain ⟨q1, q2, q3, q4, q5, q6, q7⟩ := hq
  obtain ⟨sa, hstr⟩ := hK.2.2.2.2.1 _ q4
  exact fun H locs ls hH hls => vx_throwSW hx hb hl hown q1 znames_fit (hts _ q2) (hts _ q3) hstr (z_hat hts hK.2.2 q5 q6) q7 hK.2.2.1 hK.2.2.2.1 hH.1 (hls.1.trans hml.symm) d0 d3 d4 d7 d10 (fun y hy => (hout y hy).elim) (by rw [hR]; exact hF) (by rw [hR]; exact hL) (by rw [hR]; exact hc) (by rw [hR]; exact hs) hlocks (fun t h0 h1 h2 => z_XCt hH h1 h2) hH.1.2.2 hc hs
end ZE
