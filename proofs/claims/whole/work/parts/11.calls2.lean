/-! CALLS, by kinds: V a method of a known class, A an abstract method by the receiver's class, I a constructor; P a callee that makes nothing but what it throws, S one that makes at most mc1 cells of ms1 slots -/
section ZQ
variable {x : zX} {cc : ByteArray} {own nm : String} {nL F L MC MS : Nat} {ret : Option FieldType} {cells slots : Nat} {w w1 : zR} {V : zV} {n pc : Nat} {lv lv' : List (Nat × Value)} {st st0 rest : List Value}
/-- the room that a throw of the callee's needs -/
def zRm (w : zR) (cells slots MC MS : Nat) : Prop := (cells ≤ MC ∧ slots ≤ MS) ∧ ∀ (E : String) (u : zV × Nat), w = (.inr E, u) → cells + 1 ≤ MC ∧ slots + 6 ≤ MS
theorem zRmP : zRm w 0 0 (zc w) (zs w) := ⟨⟨Nat.zero_le _, Nat.zero_le _⟩, fun E u e => by rw [e]; exact ⟨Nat.le_refl _, Nat.le_refl _⟩⟩
theorem zRmS (h1 : cells + 1 ≤ MC) (h2 : slots + 6 ≤ MS) : zRm w cells slots MC MS := ⟨⟨by omega, by omega⟩, fun _ _ _ => ⟨h1, h2⟩⟩
theorem z_cP (C : zC x cc own nm nL F L ret) (M : zM x MC MS) (hr : zRm w cells slots MC MS) {fr : Option zR} {K : Option Value → zV → Nat → Option zR} (h : zcall fr K = some w) (hrun : ∀ w1, fr = some w1 → cells + zc w1 ≤ MC → slots + zs w1 ≤ MS → zRun x nL cells slots (zc w1) (zs w1) w1 V n pc lv st0 rest) (kk : ∀ v V' n', K v V' n' = some w → zZ x nL cells slots w V' n' (pc + 3) lv (v.toList ++ rest)) : zZ x nL cells slots w V n pc lv st0 := by
  cases hfr : fr with
  | none => rw [hfr] at h; cases h
  | some w1 =>
    rcases zc_call h hfr with ⟨v, hv, hK⟩ | ⟨E, hE, hw⟩
    · have e1 : zc w1 = 0 := by unfold zc; rw [hv]
      have e2 : zs w1 = 0 := by unfold zs; rw [hv]
      refine z_core C M (hrun w1 hfr (by rw [e1]; exact hr.1.1) (by rw [e2]; exact hr.1.2)) (fun v' hv' => ?_) (fun E hE => ?_)
      · rw [hv] at hv'
        cases hv'
        rw [e1, e2]
        exact kk v _ _ hK
      · rw [hv] at hE; cases hE
    · have e1 : zc w1 = 1 := by unfold zc; rw [hE]
      have e2 : zs w1 = 6 := by unfold zs; rw [hE]
      obtain ⟨g1, g2⟩ := hr.2 E _ hw
      refine z_core C M (hrun w1 hfr (by rw [e1]; exact g1) (by rw [e2]; exact g2)) (fun v' hv' => ?_) (fun E' hE' => ?_)
      · rw [hE] at hv'; cases hv'
      · rw [hE] at hE'
        cases hE'
        exact ⟨hw, by rw [e1]; exact g1, by rw [e2]; exact g2⟩
theorem z_cS (C : zC x cc own nm nL F L ret) (M : zM x MC MS) {mc1 ms1 : Nat} (h1 : cells + mc1 ≤ MC) (h2 : slots + ms1 ≤ MS) {fr : Option zR} {K : Option Value → zV → Nat → Option zR} (h : zcall fr K = some w) (hrun : ∀ w1, fr = some w1 → zRun x nL cells slots mc1 ms1 w1 V n pc lv st0 rest) (kk : ∀ v V' n', K v V' n' = some w → zZ x nL (cells + mc1) (slots + ms1) w V' n' (pc + 3) lv (v.toList ++ rest)) : zZ x nL cells slots w V n pc lv st0 := by
  cases hfr : fr with
  | none => rw [hfr] at h; cases h
  | some w1 =>
    rcases zc_call h hfr with ⟨v, hv, hK⟩ | ⟨E, hE, hw⟩
    · refine z_core C M (hrun w1 hfr) (fun v' hv' => ?_) (fun E hE => ?_)
      · rw [hv] at hv'
        cases hv'
        exact kk v _ _ hK
      · rw [hv] at hE; cases hE
    · refine z_core C M (hrun w1 hfr) (fun v' hv' => ?_) (fun E' hE' => ?_)
      · rw [hE] at hv'; cases hv'
      · rw [hE] at hE'
        cases hE'
        exact ⟨hw, h1, h2⟩
theorem z_toMet {l : Launch} {y : MethodName} {bytes : ByteArray} {maxL : Nat} {rt : Option FieldType} {F1 L1 mc ms : Nat} {av : List Value} {D : va_G} {dA : Nat → ClassId} {v : Option Value} (h : z_Met l y bytes maxL rt F1 L1 mc ms av D dA V n w) (hv : w.1 = .inl v) : Met l y (Cond.code y bytes maxL rt :: zTs) { frames := F1, cells := mc, slots := ms, locals := L1 } (va_Pc av (fun U => U.heap.size = n ∧ z_P D dA zcl V U.heap ∧ zK D dA (z_A V n) U)) (z_Q D dA V n w) mc ms (z_A V n) := by
  intro p e a1 a2 a3 s m args below h1 h2 h3 h4
  obtain ⟨k, o, b1, b2, b3, b4⟩ := h p e a1 a2 a3 s m args below h1 h2 h3 h4
  refine ⟨k, o, b1, b2, b3, ?_⟩
  rcases b4 with b4 | ⟨q, -, E, ce, L9, ⟨hx, -⟩, -⟩
  · exact b4
  · rw [hv] at hx; cases hx
theorem z_toRun {p : Program} {l : Launch} {e : Env} {R : Room} {s : State} {m : MethodId} {args : Array Value} {below : List Frame} {meth : Method} {c : Code} {H : Heap} {locs : List Loc} {mc ms : Nat} {g : JFrame} {Qa : State → Outcome → State → Prop} {XC : String → State → State → Prop} {free : Addr → Prop} (h : va_Run p l e R s m args below meth c H locs cells slots mc ms g rest Qa free) : vx_Run p l e R s m args below meth c H locs cells slots mc ms g rest Qa XC free := fun T hT X => Or.inl (h T hT X)
/-- words of a call by the name of an abstract method xn of the class owner, on a receiver of the class C1 -/
def zCA (own : String) (idx : Nat) (C1 owner : String) (xn y : MethodName) (bytes : ByteArray) (maxL : Nat) (rt : Option FieldType) (k : Nat) : Prop := (Cond.methodLink own idx xn ∈ zTs ∧ Cond.sameMethod xn.cls owner xn.name xn.desc ∈ zTs ∧ Cond.selects C1 xn y ∈ zTs ∧ Cond.instanceMethod y ∈ zTs ∧ Cond.initialized y.cls ∈ zTs ∧ Cond.code y bytes maxL rt ∈ zTs) ∧ (⟨owner, xn.name, xn.desc⟩ : MethodName) ∈ zdecl ∧ owner ≠ "java/lang/invoke/MethodHandle" ∧ owner ≠ "java/lang/invoke/VarHandle" ∧ (parseMethodDescriptor xn.desc).map (fun d => d.parameters.length) = some k
theorem z_runA (C : zC x cc own nm nL F L ret) (M : zM x MC MS) {xn y : MethodName} {bytes : ByteArray} {maxL k idx b ci F1 L1 mc1 ms1 N : Nat} {rt : Option FieldType} {C1 owner : String} {T : u_T} {fs As : List Value} {v : Option Value} (hw : zCA own idx C1 owner xn y bytes maxL rt k) (hV : V b = some (.inr (ci, fs))) (hc : zcl[ci]? = some (C1, T, N))
    (hM : ∀ (l : Launch) (D : va_G) (dA : Nat → ClassId), l.stackTraces = false → z_Met l y bytes maxL rt F1 L1 mc1 ms1 (.ref b :: As) D dA V n w1) (hv : w1.1 = .inl v) (hF : F1 + 1 ≤ F) (hL : 8 + (maxL + 11) + L1 ≤ L) (hk : As.length = k) (hst : st0 = As.reverse ++ .ref b :: rest) (hrm : (rest.map fun v => v.category).sum ≤ 8) (d : decode cc pc = .ok (.invokevirtual idx, 3)) (hc1 : cells + mc1 ≤ MC) (hs1 : slots + ms1 ≤ MS) : zRun x nL cells slots mc1 ms1 w1 V n pc lv st0 rest := by
  have hp := z_preV C (As := As) (n := n) hV hc
  obtain ⟨p, l, e, R, s, m, args, below, meth, c, D, dA, V0, n0, mc, ms⟩ := x
  obtain ⟨hx, hb, hml, hown, hts, hK, hn0, hlocks, hr, hnm, hout, hl, hR⟩ := C
  obtain ⟨rfl, rfl⟩ := M
  intro H locs ls hH hls
  obtain ⟨⟨q1, q2, q3, q4, q5, q6⟩, q7, q8⟩ := hw
  refine ⟨_, z_toRun (va_runU ⟨hx, hb, hml, hown, hts⟩ (z_toMet (hM l D dA hl) hv) (va_cwA (owner := owner) k hts (fun w hw => ?_) rfl rfl rfl (hK.2.2.2.2.2.2.2.1 _ q7) q8 (by rw [hR]; exact ⟨hF, hL⟩)) (hp H locs hH) rfl hk hls.1 hst (lv_room hrm) d (by rw [hR]; exact ⟨hc1, hs1⟩))⟩
  rcases List.mem_append.mp hw with h | h
  · simp only [List.mem_cons, List.not_mem_nil, or_false] at h
    rcases h with h | h | h | h | h
    · rw [h]; exact zTs_good _ q1
    · rw [h]; exact zTs_good _ q2
    · rw [h]; exact zTs_good _ q3
    · rw [h]; exact zTs_good _ q4
    · rw [h]; exact zTs_good _ q5
  · exact z_goodC q6 w h
/-- words of a constructor's call -/
def zCI (own : String) (idx : Nat) (y : MethodName) (bytes : ByteArray) (maxL k : Nat) : Prop := Cond.methodLink own idx y ∈ zTs ∧ Cond.instanceMethod y ∈ zTs ∧ Cond.initialized y.cls ∈ zTs ∧ Cond.code y bytes maxL none ∈ zTs ∧ y.name = "<init>" ∧ y.cls ≠ "java/lang/invoke/MethodHandle" ∧ y.cls ≠ "java/lang/invoke/VarHandle" ∧ (parseMethodDescriptor y.desc).map (fun d => d.parameters.length) = some k
theorem z_runI (C : zC x cc own nm nL F L ret) (M : zM x MC MS) {y : MethodName} {bytes : ByteArray} {maxL k idx b F1 L1 mc1 ms1 : Nat} {As : List Value} {v : Option Value} (hw : zCI own idx y bytes maxL k)
    (hM : ∀ (l : Launch) (D : va_G) (dA : Nat → ClassId), l.stackTraces = false → z_Met l y bytes maxL none F1 L1 mc1 ms1 (.ref b :: As) D dA V n w1) (hv : w1.1 = .inl v) (hF : F1 + 1 ≤ F) (hL : 8 + (maxL + 11) + L1 ≤ L) (hk : As.length = k) (hst : st0 = As.reverse ++ .ref b :: rest) (hrm : (rest.map fun v => v.category).sum ≤ 8) (d : decode cc pc = .ok (.invokespecial idx, 3)) (hc1 : cells + mc1 ≤ MC) (hs1 : slots + ms1 ≤ MS) : zRun x nL cells slots mc1 ms1 w1 V n pc lv st0 rest := by
  have hp := z_preS C (As := .ref b :: As) (V := V) (n := n)
  obtain ⟨p, l, e, R, s, m, args, below, meth, c, D, dA, V0, n0, mc, ms⟩ := x
  obtain ⟨hx, hb, hml, hown, hts, hK, hn0, hlocks, hr, hnm, hout, hl, hR⟩ := C
  obtain ⟨rfl, rfl⟩ := M
  intro H locs ls hH hls
  obtain ⟨q1, q2, q3, q4, q5, q6⟩ := hw
  exact ⟨_, z_toRun (va_runI ⟨hx, hb, hml, hown, hts⟩ (z_toMet (hM l D dA hl) hv) (cwI k hts (z_goodC q4) rfl rfl rfl (hts _ q3) (hts _ q1) (hts _ q2) q5 q6 (by rw [hR]; exact ⟨hF, hL⟩)) (hp H locs hH) rfl hk hls.1 hst (lv_room hrm) d (by rw [hR]; exact ⟨hc1, hs1⟩))⟩
/-- .. of the private one of a nest mate -/
def zCN (y : MethodName) (bytes : ByteArray) (maxL k : Nat) : Prop := Cond.instanceMethod y ∈ zTs ∧ Cond.initialized y.cls ∈ zTs ∧ Cond.code y bytes maxL none ∈ zTs ∧ y.name = "<init>" ∧ y.cls ≠ "java/lang/invoke/MethodHandle" ∧ y.cls ≠ "java/lang/invoke/VarHandle" ∧ (parseMethodDescriptor y.desc).map (fun d => d.parameters.length) = some k
theorem z_runN (C : zC x cc "BarrierMarks" nm nL F L ret) (M : zM x MC MS) {bytes : ByteArray} {maxL k b F1 L1 mc1 ms1 : Nat} {As : List Value} {v : Option Value} (hw : zCN ⟨"BarrierMarks$AckRow", "<init>", "()V"⟩ bytes maxL k)
    (hM : ∀ (l : Launch) (D : va_G) (dA : Nat → ClassId), l.stackTraces = false → z_Met l ⟨"BarrierMarks$AckRow", "<init>", "()V"⟩ bytes maxL none F1 L1 mc1 ms1 (.ref b :: As) D dA V n w1) (hv : w1.1 = .inl v) (hF : F1 + 1 ≤ F) (hL : 8 + (maxL + 11) + L1 ≤ L) (hk : As.length = k) (hst : st0 = As.reverse ++ .ref b :: rest) (hrm : (rest.map fun v => v.category).sum ≤ 8) (d : decode cc pc = .ok (.invokespecial 23, 3)) (hc1 : cells + mc1 ≤ MC) (hs1 : slots + ms1 ≤ MS) : zRun x nL cells slots mc1 ms1 w1 V n pc lv st0 rest := by
  have hp := z_preS C (As := .ref b :: As) (V := V) (n := n)
  obtain ⟨p, l, e, R, s, m, args, below, meth, c, D, dA, V0, n0, mc, ms⟩ := x
  obtain ⟨hx, hb, hml, hown, hts, hK, hn0, hlocks, hr, hnm, hout, hl, hR⟩ := C
  obtain ⟨rfl, rfl⟩ := M
  intro H locs ls hH hls
  obtain ⟨q2, q3, q4, q5, q6⟩ := hw
  exact ⟨_, z_toRun (va_runIN (host := "BarrierMarks") ⟨hx, hb, hml, hown, hts⟩ (z_toMet (hM l D dA hl) hv) ⟨va_cnB k hts (z_goodC q4) rfl rfl rfl hK.2.2.2.2.2.2.2.2.1 (hts _ q3) q6 (by rw [hR]; exact ⟨hF, hL⟩), q5, hts _ q2⟩ (hp H locs hH) rfl hk hls.1 hst (lv_room hrm) d (by rw [hR]; exact ⟨hc1, hs1⟩))⟩
theorem z_objInit (C : zC x cc own nm nL F L ret) {idx : Nat} {r : Nat} (h1 : Cond.methodLink own idx Lib.objectInit ∈ zTs) (h2 : Cond.instanceMethod Lib.objectInit ∈ zTs) (h3 : Cond.code Lib.objectInit ⟨#[0xb1]⟩ 1 none ∈ zTs) (hF : 1 ≤ F) (hL : (st.map fun v => v.category).sum + 12 ≤ L) (d : decode cc pc = .ok (.invokespecial idx, 3)) (k9 : zZ x nL cells slots w V n (pc + 3) lv st) : zZ x nL cells slots w V n pc lv (.ref r :: st) := by
  obtain ⟨p, l, e, R, s, m, args, below, meth, c, D, dA, V0, n0, mc, ms⟩ := x
  obtain ⟨hx, hb, hml, hown, hts, hK, hn0, hlocks, hr, hnm, hout, hl, hR⟩ := C
  exact fun H locs ls hH hls => W.objInit hx hb hown (hts _ h1) (hts _ h2) (hts _ h3) rfl (hls.1.trans hml.symm) rfl d (by rw [hR]; exact hF) (by rw [hR]; show 2 * 0 + _ + 12 ≤ L; omega) (k9 H locs ls hH hls)
theorem z_vPI (C : zC x cc own nm nL F L ret) (M : zM x MC MS) {y : MethodName} {bytes : ByteArray} {maxL k idx ci F1 L1 N : Nat} {rt : Option FieldType} {C1 : String} {T : u_T} {r : Option Nat} (hr : zRm w cells slots MC MS) (As : List Value) (hw : zCV own idx C1 y bytes maxL rt k) (hc : zcl[ci]? = some (C1, T, N)) (hF : F1 + 1 ≤ F) (hL : 8 + (maxL + 11) + L1 ≤ L) (hk : As.length = k) (hst : st0 = As.reverse ++ va_rf r :: rest) (hrm : (rest.map fun v => v.category).sum ≤ 8) (d : decode cc pc = .ok (.invokevirtual idx, 3)) (fr : Nat → Option zR) {K : Int32 → zV → Nat → Option zR} (h : ((z_obj V r [ci]).bind fun o => zcI (fr o.1) K) = some w) (hM : ∀ b w1, fr b = some w1 → ∀ (l : Launch) (D : va_G) (dA : Nat → ClassId), l.stackTraces = false → z_Met l y bytes maxL rt F1 L1 (zc w1) (zs w1) (.ref b :: As) D dA V n w1) (kk : ∀ i V' n', K i V' n' = some w → zZ x nL cells slots w V' n' (pc + 3) lv (.int i :: rest)) : zZ x nL cells slots w V n pc lv st0 := by
  cases ho : z_obj V r [ci] with
  | none => rw [ho] at h; cases h
  | some o =>
    rw [ho] at h
    simp only [Option.bind_some] at h
    obtain ⟨rfl, g2, g3⟩ := z_obj_some ho
    obtain ⟨b, cj, fs⟩ := o
    dsimp only at g2 g3 hst h ⊢
    obtain rfl : cj = ci := by simpa using g3
    exact z_cP C M hr h (fun w1 e1 m1 m2 => z_runV C M hw g2 hc (hM b w1 e1) hF hL hk hst hrm d m1 m2) (fun v V' n' hK => by
      cases v with
      | none => cases hK
      | some v => cases v with
        | int i => exact kk i V' n' hK
        | _ => cases hK)
theorem z_vSI (C : zC x cc own nm nL F L ret) (M : zM x MC MS) {y : MethodName} {bytes : ByteArray} {maxL k idx ci F1 L1 N mc1 ms1 : Nat} {rt : Option FieldType} {C1 : String} {T : u_T} {r : Option Nat} (h1 : cells + mc1 ≤ MC) (h2 : slots + ms1 ≤ MS) (As : List Value) (hw : zCV own idx C1 y bytes maxL rt k) (hc : zcl[ci]? = some (C1, T, N)) (hF : F1 + 1 ≤ F) (hL : 8 + (maxL + 11) + L1 ≤ L) (hk : As.length = k) (hst : st0 = As.reverse ++ va_rf r :: rest) (hrm : (rest.map fun v => v.category).sum ≤ 8) (d : decode cc pc = .ok (.invokevirtual idx, 3)) (fr : Nat → Option zR) {K : Int32 → zV → Nat → Option zR} (h : ((z_obj V r [ci]).bind fun o => zcI (fr o.1) K) = some w) (hM : ∀ b w1, fr b = some w1 → ∀ (l : Launch) (D : va_G) (dA : Nat → ClassId), l.stackTraces = false → z_Met l y bytes maxL rt F1 L1 mc1 ms1 (.ref b :: As) D dA V n w1) (kk : ∀ i V' n', K i V' n' = some w → zZ x nL (cells + mc1) (slots + ms1) w V' n' (pc + 3) lv (.int i :: rest)) : zZ x nL cells slots w V n pc lv st0 := by
  cases ho : z_obj V r [ci] with
  | none => rw [ho] at h; cases h
  | some o =>
    rw [ho] at h
    simp only [Option.bind_some] at h
    obtain ⟨rfl, g2, g3⟩ := z_obj_some ho
    obtain ⟨b, cj, fs⟩ := o
    dsimp only at g2 g3 hst h ⊢
    obtain rfl : cj = ci := by simpa using g3
    exact z_cS C M h1 h2 h (fun w1 e1 => z_runV C M hw g2 hc (hM b w1 e1) hF hL hk hst hrm d h1 h2) (fun v V' n' hK => by
      cases v with
      | none => cases hK
      | some v => cases v with
        | int i => exact kk i V' n' hK
        | _ => cases hK)
theorem z_vPL (C : zC x cc own nm nL F L ret) (M : zM x MC MS) {y : MethodName} {bytes : ByteArray} {maxL k idx ci F1 L1 N : Nat} {rt : Option FieldType} {C1 : String} {T : u_T} {r : Option Nat} (hr : zRm w cells slots MC MS) (As : List Value) (hw : zCV own idx C1 y bytes maxL rt k) (hc : zcl[ci]? = some (C1, T, N)) (hF : F1 + 1 ≤ F) (hL : 8 + (maxL + 11) + L1 ≤ L) (hk : As.length = k) (hst : st0 = As.reverse ++ va_rf r :: rest) (hrm : (rest.map fun v => v.category).sum ≤ 8) (d : decode cc pc = .ok (.invokevirtual idx, 3)) (fr : Nat → Option zR) {K : Int64 → zV → Nat → Option zR} (h : ((z_obj V r [ci]).bind fun o => zcL (fr o.1) K) = some w) (hM : ∀ b w1, fr b = some w1 → ∀ (l : Launch) (D : va_G) (dA : Nat → ClassId), l.stackTraces = false → z_Met l y bytes maxL rt F1 L1 (zc w1) (zs w1) (.ref b :: As) D dA V n w1) (kk : ∀ i V' n', K i V' n' = some w → zZ x nL cells slots w V' n' (pc + 3) lv (.long i :: rest)) : zZ x nL cells slots w V n pc lv st0 := by
  cases ho : z_obj V r [ci] with
  | none => rw [ho] at h; cases h
  | some o =>
    rw [ho] at h
    simp only [Option.bind_some] at h
    obtain ⟨rfl, g2, g3⟩ := z_obj_some ho
    obtain ⟨b, cj, fs⟩ := o
    dsimp only at g2 g3 hst h ⊢
    obtain rfl : cj = ci := by simpa using g3
    exact z_cP C M hr h (fun w1 e1 m1 m2 => z_runV C M hw g2 hc (hM b w1 e1) hF hL hk hst hrm d m1 m2) (fun v V' n' hK => by
      cases v with
      | none => cases hK
      | some v => cases v with
        | long i => exact kk i V' n' hK
        | _ => cases hK)
theorem z_vSL (C : zC x cc own nm nL F L ret) (M : zM x MC MS) {y : MethodName} {bytes : ByteArray} {maxL k idx ci F1 L1 N mc1 ms1 : Nat} {rt : Option FieldType} {C1 : String} {T : u_T} {r : Option Nat} (h1 : cells + mc1 ≤ MC) (h2 : slots + ms1 ≤ MS) (As : List Value) (hw : zCV own idx C1 y bytes maxL rt k) (hc : zcl[ci]? = some (C1, T, N)) (hF : F1 + 1 ≤ F) (hL : 8 + (maxL + 11) + L1 ≤ L) (hk : As.length = k) (hst : st0 = As.reverse ++ va_rf r :: rest) (hrm : (rest.map fun v => v.category).sum ≤ 8) (d : decode cc pc = .ok (.invokevirtual idx, 3)) (fr : Nat → Option zR) {K : Int64 → zV → Nat → Option zR} (h : ((z_obj V r [ci]).bind fun o => zcL (fr o.1) K) = some w) (hM : ∀ b w1, fr b = some w1 → ∀ (l : Launch) (D : va_G) (dA : Nat → ClassId), l.stackTraces = false → z_Met l y bytes maxL rt F1 L1 mc1 ms1 (.ref b :: As) D dA V n w1) (kk : ∀ i V' n', K i V' n' = some w → zZ x nL (cells + mc1) (slots + ms1) w V' n' (pc + 3) lv (.long i :: rest)) : zZ x nL cells slots w V n pc lv st0 := by
  cases ho : z_obj V r [ci] with
  | none => rw [ho] at h; cases h
  | some o =>
    rw [ho] at h
    simp only [Option.bind_some] at h
    obtain ⟨rfl, g2, g3⟩ := z_obj_some ho
    obtain ⟨b, cj, fs⟩ := o
    dsimp only at g2 g3 hst h ⊢
    obtain rfl : cj = ci := by simpa using g3
    exact z_cS C M h1 h2 h (fun w1 e1 => z_runV C M hw g2 hc (hM b w1 e1) hF hL hk hst hrm d h1 h2) (fun v V' n' hK => by
      cases v with
      | none => cases hK
      | some v => cases v with
        | long i => exact kk i V' n' hK
        | _ => cases hK)
theorem z_vPR (C : zC x cc own nm nL F L ret) (M : zM x MC MS) {y : MethodName} {bytes : ByteArray} {maxL k idx ci F1 L1 N : Nat} {rt : Option FieldType} {C1 : String} {T : u_T} {r : Option Nat} (hr : zRm w cells slots MC MS) (As : List Value) (hw : zCV own idx C1 y bytes maxL rt k) (hc : zcl[ci]? = some (C1, T, N)) (hF : F1 + 1 ≤ F) (hL : 8 + (maxL + 11) + L1 ≤ L) (hk : As.length = k) (hst : st0 = As.reverse ++ va_rf r :: rest) (hrm : (rest.map fun v => v.category).sum ≤ 8) (d : decode cc pc = .ok (.invokevirtual idx, 3)) (fr : Nat → Option zR) {K : Option Nat → zV → Nat → Option zR} (h : ((z_obj V r [ci]).bind fun o => zcR (fr o.1) K) = some w) (hM : ∀ b w1, fr b = some w1 → ∀ (l : Launch) (D : va_G) (dA : Nat → ClassId), l.stackTraces = false → z_Met l y bytes maxL rt F1 L1 (zc w1) (zs w1) (.ref b :: As) D dA V n w1) (kk : ∀ i V' n', K i V' n' = some w → zZ x nL cells slots w V' n' (pc + 3) lv (va_rf i :: rest)) : zZ x nL cells slots w V n pc lv st0 := by
  cases ho : z_obj V r [ci] with
  | none => rw [ho] at h; cases h
  | some o =>
    rw [ho] at h
    simp only [Option.bind_some] at h
    obtain ⟨rfl, g2, g3⟩ := z_obj_some ho
    obtain ⟨b, cj, fs⟩ := o
    dsimp only at g2 g3 hst h ⊢
    obtain rfl : cj = ci := by simpa using g3
    exact z_cP C M hr h (fun w1 e1 m1 m2 => z_runV C M hw g2 hc (hM b w1 e1) hF hL hk hst hrm d m1 m2) (fun v V' n' hK => by
      cases v with
      | none => cases hK
      | some v => cases v with
        | ref i => exact kk (some i) V' n' hK
        | null => exact kk none V' n' hK
        | _ => cases hK)
theorem z_vSR (C : zC x cc own nm nL F L ret) (M : zM x MC MS) {y : MethodName} {bytes : ByteArray} {maxL k idx ci F1 L1 N mc1 ms1 : Nat} {rt : Option FieldType} {C1 : String} {T : u_T} {r : Option Nat} (h1 : cells + mc1 ≤ MC) (h2 : slots + ms1 ≤ MS) (As : List Value) (hw : zCV own idx C1 y bytes maxL rt k) (hc : zcl[ci]? = some (C1, T, N)) (hF : F1 + 1 ≤ F) (hL : 8 + (maxL + 11) + L1 ≤ L) (hk : As.length = k) (hst : st0 = As.reverse ++ va_rf r :: rest) (hrm : (rest.map fun v => v.category).sum ≤ 8) (d : decode cc pc = .ok (.invokevirtual idx, 3)) (fr : Nat → Option zR) {K : Option Nat → zV → Nat → Option zR} (h : ((z_obj V r [ci]).bind fun o => zcR (fr o.1) K) = some w) (hM : ∀ b w1, fr b = some w1 → ∀ (l : Launch) (D : va_G) (dA : Nat → ClassId), l.stackTraces = false → z_Met l y bytes maxL rt F1 L1 mc1 ms1 (.ref b :: As) D dA V n w1) (kk : ∀ i V' n', K i V' n' = some w → zZ x nL (cells + mc1) (slots + ms1) w V' n' (pc + 3) lv (va_rf i :: rest)) : zZ x nL cells slots w V n pc lv st0 := by
  cases ho : z_obj V r [ci] with
  | none => rw [ho] at h; cases h
  | some o =>
    rw [ho] at h
    simp only [Option.bind_some] at h
    obtain ⟨rfl, g2, g3⟩ := z_obj_some ho
    obtain ⟨b, cj, fs⟩ := o
    dsimp only at g2 g3 hst h ⊢
    obtain rfl : cj = ci := by simpa using g3
    exact z_cS C M h1 h2 h (fun w1 e1 => z_runV C M hw g2 hc (hM b w1 e1) hF hL hk hst hrm d h1 h2) (fun v V' n' hK => by
      cases v with
      | none => cases hK
      | some v => cases v with
        | ref i => exact kk (some i) V' n' hK
        | null => exact kk none V' n' hK
        | _ => cases hK)
theorem z_vPV (C : zC x cc own nm nL F L ret) (M : zM x MC MS) {y : MethodName} {bytes : ByteArray} {maxL k idx ci F1 L1 N : Nat} {rt : Option FieldType} {C1 : String} {T : u_T} {r : Option Nat} (hr : zRm w cells slots MC MS) (As : List Value) (hw : zCV own idx C1 y bytes maxL rt k) (hc : zcl[ci]? = some (C1, T, N)) (hF : F1 + 1 ≤ F) (hL : 8 + (maxL + 11) + L1 ≤ L) (hk : As.length = k) (hst : st0 = As.reverse ++ va_rf r :: rest) (hrm : (rest.map fun v => v.category).sum ≤ 8) (d : decode cc pc = .ok (.invokevirtual idx, 3)) (fr : Nat → Option zR) {K : zV → Nat → Option zR} (h : ((z_obj V r [ci]).bind fun o => zcV (fr o.1) K) = some w) (hM : ∀ b w1, fr b = some w1 → ∀ (l : Launch) (D : va_G) (dA : Nat → ClassId), l.stackTraces = false → z_Met l y bytes maxL rt F1 L1 (zc w1) (zs w1) (.ref b :: As) D dA V n w1) (kk : ∀ V' n', K V' n' = some w → zZ x nL cells slots w V' n' (pc + 3) lv rest) : zZ x nL cells slots w V n pc lv st0 := by
  cases ho : z_obj V r [ci] with
  | none => rw [ho] at h; cases h
  | some o =>
    rw [ho] at h
    simp only [Option.bind_some] at h
    obtain ⟨rfl, g2, g3⟩ := z_obj_some ho
    obtain ⟨b, cj, fs⟩ := o
    dsimp only at g2 g3 hst h ⊢
    obtain rfl : cj = ci := by simpa using g3
    exact z_cP C M hr h (fun w1 e1 m1 m2 => z_runV C M hw g2 hc (hM b w1 e1) hF hL hk hst hrm d m1 m2) (fun v V' n' hK => by
      cases v with
      | none => exact kk V' n' hK
      | some v => cases hK)
theorem z_vSV (C : zC x cc own nm nL F L ret) (M : zM x MC MS) {y : MethodName} {bytes : ByteArray} {maxL k idx ci F1 L1 N mc1 ms1 : Nat} {rt : Option FieldType} {C1 : String} {T : u_T} {r : Option Nat} (h1 : cells + mc1 ≤ MC) (h2 : slots + ms1 ≤ MS) (As : List Value) (hw : zCV own idx C1 y bytes maxL rt k) (hc : zcl[ci]? = some (C1, T, N)) (hF : F1 + 1 ≤ F) (hL : 8 + (maxL + 11) + L1 ≤ L) (hk : As.length = k) (hst : st0 = As.reverse ++ va_rf r :: rest) (hrm : (rest.map fun v => v.category).sum ≤ 8) (d : decode cc pc = .ok (.invokevirtual idx, 3)) (fr : Nat → Option zR) {K : zV → Nat → Option zR} (h : ((z_obj V r [ci]).bind fun o => zcV (fr o.1) K) = some w) (hM : ∀ b w1, fr b = some w1 → ∀ (l : Launch) (D : va_G) (dA : Nat → ClassId), l.stackTraces = false → z_Met l y bytes maxL rt F1 L1 mc1 ms1 (.ref b :: As) D dA V n w1) (kk : ∀ V' n', K V' n' = some w → zZ x nL (cells + mc1) (slots + ms1) w V' n' (pc + 3) lv rest) : zZ x nL cells slots w V n pc lv st0 := by
  cases ho : z_obj V r [ci] with
  | none => rw [ho] at h; cases h
  | some o =>
    rw [ho] at h
    simp only [Option.bind_some] at h
    obtain ⟨rfl, g2, g3⟩ := z_obj_some ho
    obtain ⟨b, cj, fs⟩ := o
    dsimp only at g2 g3 hst h ⊢
    obtain rfl : cj = ci := by simpa using g3
    exact z_cS C M h1 h2 h (fun w1 e1 => z_runV C M hw g2 hc (hM b w1 e1) hF hL hk hst hrm d h1 h2) (fun v V' n' hK => by
      cases v with
      | none => exact kk V' n' hK
      | some v => cases hK)
end ZQ
