/-! THE LAW'S HELPERS: they call the class and catch what it throws -/
def znc2 : List (String × String) := [("java/lang/IllegalStateException", "java/lang/IndexOutOfBoundsException"), ("java/lang/IllegalArgumentException", "java/lang/IndexOutOfBoundsException"), ("java/lang/IllegalArgumentException", "java/lang/IllegalStateException")]
def hN (U : State) : Prop := ∀ q ∈ znc2, va_Nc q.1 q.2 U
def h_Q (D : va_G) (dA : Nat → ClassId) (V0 : zV) (n0 : Nat) (P : Int32 → zV → Nat → Prop) : Array Value → State → Outcome → State → Prop := fun _ st o t => ∃ (k : Int32) (V : zV) (n : Nat), o = .returned (some (.int k)) ∧ P k V n ∧ t.heap.size = n ∧ z_W D dA V0 n0 V st t
def h_Met (l : Launch) (y : MethodName) (bytes : ByteArray) (maxL : Nat) (hh : List (Nat × Nat × Nat × Nat)) (F L mc ms : Nat) (av : List Value) (D : va_G) (dA : Nat → ClassId) (V : zV) (n : Nat) (P : Int32 → zV → Nat → Prop) : Prop :=
  Met l y (Cond.codeWith y bytes maxL (some .int) hh :: zTs) { frames := F, cells := mc, slots := ms, locals := L } (va_Pc av (fun U => U.heap.size = n ∧ z_P D dA zcl V U.heap ∧ zK D dA (z_A V n) U ∧ hN U)) (h_Q D dA V n P) mc ms (z_A V n)
def hEnd (x : gX) (V : zV) (n : Nat) (P : Int32 → zV → Nat → Prop) (mc ms : Nat) : State → Prop := match x with
  | (_, _, _, _, s, _, args, below, _, _, D, dA) => MQ below (h_Q D dA V n P) args s mc ms (z_A V n)
/-- what a helper's body has besides gC -/
def hX (x : gX) (hh : List (Nat × Nat × Nat × Nat)) : Prop := match x with
  | (_, _, _, _, s, _, _, _, meth, c, _, _) => c.exceptionTable.toList = tableOf hh ∧ meth.sig.returnType = some .int ∧ hN s
theorem h_ofG {l : Launch} {y : MethodName} {bytes : ByteArray} {maxL : Nat} {hh : List (Nat × Nat × Nat × Nat)} {F L mc ms : Nat} {av : List Value} {D : va_G} {dA : Nat → ClassId} {V : zV} {n : Nat} {P : Int32 → zV → Nat → Prop} (hl : l.stackTraces = false) (hy : plainName y.cls = true) (hav : (lg_sl av).length ≤ maxL)
    (body : ∀ x : gX, gC x (z_A V n) bytes y.cls maxL F L mc ms → hX x hh → gZ x (z_A V n) (hEnd x V n P mc ms) maxL 0 0 V n 0 (lv_args 0 av) []) : h_Met l y bytes maxL hh F L mc ms av D dA V n P := by
  refine va_MetW (cc := bytes) (maxL := maxL) (ret := some .int) (hh := hh) hy rfl ?_
  intro p e s m args below meth c s₁ B hml hv
  obtain ⟨rfl, hsz, hP, hK, hNN⟩ := hv
  have hts := atoms_spec (ws := Cond.codeWith y bytes maxL (some .int) hh :: zTs) B.pre
  have htab : c.exceptionTable.toList = tableOf hh := vx_table (x := y) B (hts _ List.mem_cons_self)
  have h := body (p, l, e, { frames := F, cells := mc, slots := ms, locals := L }, s, m, av.toArray, below, meth, c, D, dA) ⟨B.exec, B.bytes, hml, findClass_of_methodNamed B.named, fun w hw => hts w (List.mem_cons_of_mem _ hw), hK, fun q hq => Or.inr (by omega), B.notSynchronized, hl, rfl⟩ ⟨htab, B.returns, hNN⟩
  have hl0 := lv_entry av (n := maxL) hav
  rw [lg_entry_eq]
  exact h s.heap [] _ ⟨va_S.rf, hsz, hP, fun a y ha => Or.inl ⟨y, ha⟩⟩ hl0
section HR
variable {x : gX} {P : Int32 → zV → Nat → Prop} {cc : ByteArray} {own : String} {nL F L MC MS : Nat} {cells slots : Nat} {V V0 : zV} {n n0 pc : Nat} {lv lv' : List (Nat × Value)} {st st0 rest : List Value} {hh : List (Nat × Nat × Nat × Nat)}
theorem h_ret (C : gC x (z_A V0 n0) cc own nL F L MC MS) (X : hX x hh) (hc : cells ≤ MC) (hs : slots ≤ MS) (d : decode cc pc = .ok (.ireturn, 1)) {k : Int32} (h : P k V n) : gZ x (z_A V0 n0) (hEnd x V0 n0 P MC MS) nL cells slots V n pc lv [.int k] := by
  obtain ⟨p, l, e, R, s, m, args, below, meth, c, D, dA⟩ := x
  obtain ⟨hx, hb, hml, hown, hts, hK, hA, hlocks, hl, hR⟩ := C
  exact fun H locs ls hH hls => W.widen hc hs (W.iret hx hb X.2.1 (fun t ht hW => ⟨k, V, n, rfl, h, by rw [ht]; exact hH.2.1, z_WH hH ht⟩) hH.1.2.2 d)
/-- an exception of the class E is caught by the row (a, b, hp, ct) of the table, past the rows pre -/
theorem h_catch {A : Nat → Prop} {Q : State → Prop} (C : gC x A cc own nL F L MC MS) (X : hX x hh) {E : String} (pre : List (Nat × Nat × Nat × Nat)) (hp ct a b : Nat) (suf : List (Nat × Nat × Nat × Nat)) (hsp : hh = pre ++ (a, b, hp, ct) :: suf) (hcov : a ≤ pc ∧ pc < b) (h0 : ct ≠ 0) (hlk : Cond.classLink own ct E ∈ zTs) (hcast : (E, E) ∈ zcast) (hpre : ∀ z ∈ pre, z.2.2.2 ≠ 0 ∧ ∃ nm, Cond.classLink own z.2.2.2 nm ∈ zTs ∧ (E, nm) ∈ znc2) (kk : ∀ q : Nat, gZ x A Q nL cells slots V n hp lv [.ref q]) : gW x A Q nL cells slots V n pc lv rest E := by
  obtain ⟨p, l, e, R, s, m, args, below, meth, c, D, dA⟩ := x
  obtain ⟨hx, hb, hml, hown, hts, hK, hA, hlocks, hl, hR⟩ := C
  obtain ⟨htab, hr, hNN⟩ := X
  intro H locs ls q ce hH hls hce hcv hcl
  exact vx_catch (E := E) (name := E) hown (tableOf pre) ⟨a, b, hp, ct⟩ (tableOf suf) (by rw [htab, hsp]; simp [tableOf]) (fun z hz => by
    obtain ⟨u, hu, rfl⟩ := List.mem_map.mp hz
    obtain ⟨g0, nm, g1, g2⟩ := hpre u hu
    exact Or.inr ⟨g0, nm, hts _ g1, hNN _ g2⟩) (by simp [covers, hcov.1, hcov.2]) h0 (hts _ hlk) (va_Nw.use rfl (hK.2.2.2.2.2.2.1 _ hcast)) hce hcv hcl (kk q H locs ls hH hls)
end HR
