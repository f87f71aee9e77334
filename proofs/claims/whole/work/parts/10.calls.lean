/-! CALLS. A method's contract: over the map V of size n it comes to the end w -/
def z_Met (l : Launch) (y : MethodName) (bytes : ByteArray) (maxL : Nat) (ret : Option FieldType) (F L mc ms : Nat) (av : List Value) (D : va_G) (dA : Nat → ClassId) (V : zV) (n : Nat) (w : zR) : Prop :=
  vx_Met l y (Cond.code y bytes maxL ret :: zTs) { frames := F, cells := mc, slots := ms, locals := L } (va_Pc av (fun U => U.heap.size = n ∧ z_P D dA zcl V U.heap ∧ zK D dA (z_A V n) U)) (z_Q D dA V n w) (z_XC D dA V n w) mc ms (z_A V n)
/-- from the walk of the body to the contract -/
theorem z_ofZ {l : Launch} {y : MethodName} {bytes : ByteArray} {maxL : Nat} {ret : Option FieldType} {F L mc ms : Nat} {av : List Value} {D : va_G} {dA : Nat → ClassId} {V : zV} {n : Nat} {w : zR} (hl : l.stackTraces = false) (hy : plainName y.cls = true) (hav : (lg_sl av).length ≤ maxL)
    (body : ∀ x : zX, zC x bytes y.cls y.name maxL F L ret → zM x mc ms → zZ x maxL 0 0 w V n 0 (lv_args 0 av) []) : z_Met l y bytes maxL ret F L mc ms av D dA V n w := by
  refine vx_ofW (cc := bytes) (maxL := maxL) (ret := ret) hy rfl ?_
  intro p e s m args below meth c s₁ B hml hout hv
  obtain ⟨rfl, hsz, hP, hK⟩ := hv
  have hts := atoms_spec (ws := Cond.code y bytes maxL ret :: zTs) B.pre
  have hnm := (name_of_methodNamed B.named B.method).1
  have h := body (p, l, e, { frames := F, cells := mc, slots := ms, locals := L }, s, m, av.toArray, below, meth, c, D, dA, V, n, mc, ms) ⟨B.exec, B.bytes, hml, findClass_of_methodNamed B.named, fun w hw => hts w (List.mem_cons_of_mem _ hw), hK, hsz, B.notSynchronized, B.returns, hnm, hout, hl, rfl⟩ ⟨rfl, rfl⟩
  have hl0 := lv_entry av (n := maxL) hav
  rw [lg_entry_eq]
  exact h s.heap [] _ ⟨va_S.rf, hsz, hP, fun a y ha => Or.inl ⟨y, ha⟩⟩ hl0
/-- what a call gives back -/
def zcall (fr : Option zR) (K : Option Value → zV → Nat → Option zR) : Option zR := fr.bind fun w1 => match w1.1 with
  | .inl v => K v w1.2.1 w1.2.2
  | .inr E => some (.inr E, w1.2)
def zcI (fr : Option zR) (K : Int32 → zV → Nat → Option zR) : Option zR := zcall fr fun v V n => match v with
  | some (.int i) => K i V n
  | _ => none
def zcL (fr : Option zR) (K : Int64 → zV → Nat → Option zR) : Option zR := zcall fr fun v V n => match v with
  | some (.long i) => K i V n
  | _ => none
def zcR (fr : Option zR) (K : Option Nat → zV → Nat → Option zR) : Option zR := zcall fr fun v V n => match v with
  | some (.ref a) => K (some a) V n
  | some .null => K none V n
  | _ => none
def zcV (fr : Option zR) (K : zV → Nat → Option zR) : Option zR := zcall fr fun v V n => match v with
  | none => K V n
  | _ => none
theorem zc_call {fr : Option zR} {K : Option Value → zV → Nat → Option zR} {w w1 : zR} (h : zcall fr K = some w) (h1 : fr = some w1) : (∃ v, w1.1 = .inl v ∧ K v w1.2.1 w1.2.2 = some w) ∨ ∃ E, w1.1 = .inr E ∧ w = (.inr E, w1.2) := by
  unfold zcall at h
  rw [h1] at h
  simp only [Option.bind_some] at h
  obtain ⟨o, V1, n1⟩ := w1
  cases o with
  | inl v => exact Or.inl ⟨v, rfl, h⟩
  | inr E => exact Or.inr ⟨E, rfl, (Option.some.inj h).symm⟩
section ZK
variable {x : zX} {cc : ByteArray} {own nm : String} {nL F L MC MS : Nat} {ret : Option FieldType} {cells slots : Nat} {w w1 : zR} {V : zV} {n pc : Nat} {lv lv' : List (Nat × Value)} {st st0 rest : List Value}
/-- the run of a call at this place: whatever the heap is that holds V -/
def zRun (x : zX) (nL cells slots mc1 ms1 : Nat) (w1 : zR) (V : zV) (n pc : Nat) (lv : List (Nat × Value)) (st0 rest : List Value) : Prop := match x with
  | (p, l, e, R, s, m, args, below, meth, c, D, dA, V0, n0, _, _) => ∀ (H : Heap) (locs : List Loc) (ls : Array Slot), z_H D dA zcl (z_A V0 n0) s.heap V n H locs → lv_has ls nL lv → ∃ a1 : Array Value, vx_Run p l e R s m args below meth c H locs cells slots mc1 ms1 (F0 m pc ls st0) rest (z_Q D dA V n w1 a1) (z_XC D dA V n w1) (z_A V n)
theorem z_AA {V0 : zV} {n0 : Nat} {D : va_G} {dA : Nat → ClassId} {s : State} {H : Heap} {locs : List Loc} (hn : s.heap.size = n0) (hH : z_H D dA zcl (z_A V0 n0) s.heap V n H locs) : ∀ q, z_A V n q → z_A V0 n0 q := by
  intro q h
  rcases h with ⟨y, h⟩ | h
  · exact hH.2.2.2 q y h
  · exact Or.inr (by have := hH.1.1; have := hH.2.1; omega)
theorem z_core (C : zC x cc own nm nL F L ret) (M : zM x MC MS) {mc1 ms1 : Nat} (hrun : zRun x nL cells slots mc1 ms1 w1 V n pc lv st0 rest)
    (kk : ∀ v, w1.1 = .inl v → zZ x nL (cells + mc1) (slots + ms1) w w1.2.1 w1.2.2 (pc + 3) lv (v.toList ++ rest))
    (kx : ∀ E, w1.1 = .inr E → w = (.inr E, w1.2) ∧ cells + mc1 ≤ MC ∧ slots + ms1 ≤ MS) : zZ x nL cells slots w V n pc lv st0 := by
  obtain ⟨p, l, e, R, s, m, args, below, meth, c, D, dA, V0, n0, mc, ms⟩ := x
  obtain ⟨hx, hb, hml, hown, hts, hK, hn0, hlocks, hr, hnm, hout, hl, hR⟩ := C
  obtain ⟨rfl, rfl⟩ := M
  intro H locs ls hH hls T hT X
  have hAA := z_AA hn0 hH
  obtain ⟨a1, hr9⟩ := hrun H locs ls hH hls
  rcases hr9 T hT X with ⟨v, st₀, t, T', L1, h0, X', hL, e1, e2, ⟨v', hv1, hv2, hsz, hP', hA', hF⟩, st⟩ | ⟨q, st₀, t, T', L1, E, ce, h0, X', hL, e1, e2, ⟨hE, hP', hA', hF⟩, hce, hcv, hcl, st⟩
  · cases hv2
    obtain ⟨k1, k2, k3⟩ := vx_keep h0 e1 hH.1 (fun q _ h => hAA q h) hAA hL hF
    obtain ⟨t2, b1, b2⟩ := kk v hv1 T'.heap (locs ++ L1) ls ⟨k3, by rw [e1]; exact hsz, by rw [e1]; exact hP', fun a y ha => hAA a (hA' a y ha)⟩ hls T' rfl X'
    exact ⟨t2, st t2 b1, b2⟩
  · obtain ⟨rfl, hc9, hs9⟩ := kx E hE
    obtain ⟨k1, k2, k3⟩ := vx_keep h0 e1 hH.1 (fun q _ h => hAA q h) hAA hL hF
    obtain ⟨t2, b1, b2⟩ := vx_out (Qc := z_Q D dA V0 n0 (.inr E, w1.2)) (XC := z_XC D dA V0 n0 (.inr E, w1.2)) (free := z_A V0 n0) (ls := ls) (rest := rest) (pc := pc) (fun y hy => (hout y hy).elim) hlocks (by rw [e1]; exact hce) hcv hcl (fun t9 ht9 _ => ⟨rfl, by rw [ht9, e1]; exact hP', fun a y ha => hAA a (hA' a y ha), k3.F ht9⟩) k3.2.2 hc9 hs9 T' rfl X'
    exact ⟨t2, st.trans b1, b2⟩
/-- words of a call by invokevirtual of a method of the class C1 -/
def zCV (own : String) (idx : Nat) (C1 : String) (y : MethodName) (bytes : ByteArray) (maxL : Nat) (rt : Option FieldType) (k : Nat) : Prop := (Cond.methodLink own idx y ∈ zTs ∧ Cond.instanceMethod y ∈ zTs ∧ Cond.selects C1 y y ∈ zTs ∧ Cond.initialized C1 ∈ zTs ∧ Cond.code y bytes maxL rt ∈ zTs) ∧ y.cls = C1 ∧ y.cls ≠ "java/lang/invoke/MethodHandle" ∧ y.cls ≠ "java/lang/invoke/VarHandle" ∧ (parseMethodDescriptor y.desc).map (fun d => d.parameters.length) = some k
theorem z_goodC {y : MethodName} {bytes : ByteArray} {maxL : Nat} {rt : Option FieldType} (h : Cond.code y bytes maxL rt ∈ zTs) : GoodIn zTs (Cond.code y bytes maxL rt :: zTs) := fun w hw => (List.mem_cons.mp hw).elim (fun e => by rw [e]; exact zTs_good _ h) (zTs_good w)
theorem z_preV {x : zX} (C : zC x cc own nm nL F L ret) {b ci : Nat} {fs As : List Value} {C1 : String} {T : u_T} {N : Nat} (hV : V b = some (.inr (ci, fs))) (hc : zcl[ci]? = some (C1, T, N)) : match x with
  | (_, _, _, _, s, _, _, _, _, _, D, dA, V0, n0, _, _) => ∀ (H : Heap) (locs : List Loc), z_H D dA zcl (z_A V0 n0) s.heap V n H locs → PreV s H C1 b (va_Pc (.ref b :: As) (fun U => U.heap.size = n ∧ z_P D dA zcl V U.heap ∧ zK D dA (z_A V n) U)) As := by
  obtain ⟨p, l, e, R, s, m, args, below, meth, c, D, dA, V0, n0, mc, ms⟩ := x
  obtain ⟨hx, hb, hml, hown, hts, hK, hn0, hlocks, hr, hnm, hout, hl, hR⟩ := C
  intro H locs hH
  refine ⟨fun a U g mk q => ?_, va_recv hK.1 (hH.2.2.1.one hV) (ci := ci) (q0 := 0) hc rfl, fun U hU hW => ⟨rfl, by rw [hU]; exact hH.2.1, by rw [hU]; exact hH.2.2.1, hK.move hH.1 hU hW (z_AA hn0 hH)⟩⟩
  obtain ⟨q0, q1, q2, q3⟩ := q
  exact ⟨q0, q1, q2, q3.move (va_S.rf) rfl (State.WarmedH.refl U) (fun _ h => h)⟩
theorem z_preS {x : zX} (C : zC x cc own nm nL F L ret) {As : List Value} : match x with
  | (_, _, _, _, s, _, _, _, _, _, D, dA, V0, n0, _, _) => ∀ (H : Heap) (locs : List Loc), z_H D dA zcl (z_A V0 n0) s.heap V n H locs → PreS s H (va_Pc As (fun U => U.heap.size = n ∧ z_P D dA zcl V U.heap ∧ zK D dA (z_A V n) U)) As := by
  obtain ⟨p, l, e, R, s, m, args, below, meth, c, D, dA, V0, n0, mc, ms⟩ := x
  obtain ⟨hx, hb, hml, hown, hts, hK, hn0, hlocks, hr, hnm, hout, hl, hR⟩ := C
  intro H locs hH
  refine ⟨fun a U g mk q => ?_, fun U hU hW => ⟨rfl, by rw [hU]; exact hH.2.1, by rw [hU]; exact hH.2.2.1, hK.move hH.1 hU hW (z_AA hn0 hH)⟩⟩
  obtain ⟨q0, q1, q2, q3⟩ := q
  exact ⟨q0, q1, q2, q3.move (va_S.rf) rfl (State.WarmedH.refl U) (fun _ h => h)⟩
theorem z_runV (C : zC x cc own nm nL F L ret) (M : zM x MC MS) {y : MethodName} {bytes : ByteArray} {maxL k idx b ci F1 L1 mc1 ms1 N : Nat} {rt : Option FieldType} {C1 : String} {T : u_T} {fs As : List Value} (hw : zCV own idx C1 y bytes maxL rt k) (hV : V b = some (.inr (ci, fs))) (hc : zcl[ci]? = some (C1, T, N))
    (hM : ∀ (l : Launch) (D : va_G) (dA : Nat → ClassId), l.stackTraces = false → z_Met l y bytes maxL rt F1 L1 mc1 ms1 (.ref b :: As) D dA V n w1) (hF : F1 + 1 ≤ F) (hL : 8 + (maxL + 11) + L1 ≤ L) (hk : As.length = k) (hst : st0 = As.reverse ++ .ref b :: rest) (hrm : (rest.map fun v => v.category).sum ≤ 8) (d : decode cc pc = .ok (.invokevirtual idx, 3)) (hc1 : cells + mc1 ≤ MC) (hs1 : slots + ms1 ≤ MS) : zRun x nL cells slots mc1 ms1 w1 V n pc lv st0 rest := by
  have hp := z_preV C (As := As) (n := n) hV hc
  obtain ⟨p, l, e, R, s, m, args, below, meth, c, D, dA, V0, n0, mc, ms⟩ := x
  obtain ⟨hx, hb, hml, hown, hts, hK, hn0, hlocks, hr, hnm, hout, hl, hR⟩ := C
  obtain ⟨rfl, rfl⟩ := M
  intro H locs ls hH hls
  obtain ⟨⟨q1, q2, q3, q4, q5⟩, q6⟩ := hw
  refine ⟨_, vx_runV ⟨hx, hb, hml, hown, hts⟩ (hM l D dA hl) (cwV k hts (fun w hw => ?_) rfl rfl rfl q6 (by rw [hR]; exact ⟨hF, hL⟩)) (hp H locs hH) rfl hk hls.1 hst (lv_room hrm) d (by rw [hR]; exact ⟨hc1, hs1⟩)⟩
  rcases List.mem_append.mp hw with h | h
  · simp only [List.mem_cons, List.not_mem_nil, or_false] at h
    rcases h with h | h | h | h
    · rw [h]; exact zTs_good _ q1
    · rw [h]; exact zTs_good _ q2
    · rw [h]; exact zTs_good _ q3
    · rw [h]; exact zTs_good _ q4
  · exact z_goodC q5 w h
end ZK
