/-! THE LAW'S OWN ROWS: its script, the helper 'cell', calls of helpers -/
def gS (x : gX) (A : Nat → Prop) (b Ln : Nat) (xs : Nat → Int32) : Prop := match x with
  | (_, _, _, _, s, _, _, _, _, _, _, _) => va_X b Ln xs s s.heap ∧ b < s.heap.size ∧ ¬ A b
def yCell : MethodName := ⟨"BarrierMarksLaw", "cell", "([II)I"⟩
/-- words of a static call -/
def zCS (own : String) (idx : Nat) (y : MethodName) (k : Nat) : Prop := Cond.methodLink own idx y ∈ zTs ∧ Cond.static y ∈ zTs ∧ Cond.initialized y.cls ∈ zTs ∧ y.cls ≠ "java/lang/invoke/MethodHandle" ∧ y.cls ≠ "java/lang/invoke/VarHandle" ∧ (parseMethodDescriptor y.desc).map (fun d => d.parameters.length) = some k
section GL
variable {x : gX} {A : Nat → Prop} {Q : State → Prop} {cc : ByteArray} {own : String} {nL F L MC MS : Nat} {cells slots : Nat} {V : zV} {n pc b Ln : Nat} {xs : Nat → Int32} {lv lv' : List (Nat × Value)} {st st0 rest : List Value}
theorem g_slen (C : gC x A cc own nL F L MC MS) (S : gS x A b Ln xs) (d : decode cc pc = .ok (.arraylength, 1)) (k9 : gZ x A Q nL cells slots V n (pc + 1) lv (.int (nI Ln) :: st)) : gZ x A Q nL cells slots V n pc lv (.ref b :: st) := by
  obtain ⟨p, l, e, R, s, m, args, below, meth, c, D, dA⟩ := x
  exact fun H locs ls hH hls => va_slen C.1 C.2.1 S.1 S.2.1 S.2.2 hH.1 d (k9 H locs ls hH hls)
theorem g_sld (C : gC x A cc own nL F L MC MS) (S : gS x A b Ln xs) {i : Int32} (hin : vp_in i Ln) (d : decode cc pc = .ok (.iaload, 1)) (k9 : gZ x A Q nL cells slots V n (pc + 1) lv (.int (xs i.toNatClampNeg) :: st)) : gZ x A Q nL cells slots V n pc lv (.int i :: .ref b :: st) := by
  obtain ⟨p, l, e, R, s, m, args, below, meth, c, D, dA⟩ := x
  exact fun H locs ls hH hls => va_sld C.1 C.2.1 S.1 S.2.1 S.2.2 hH.1 hin d (k9 H locs ls hH hls)
theorem g_tsw (C : gC x A cc own nL F L MC MS) {v : Int32} {dflt : Int} {N len : Nat} {hi : Int} {offs : Array Int} (hN : hi + 1 = (N : Int)) (hN2 : N < 2 ^ 31) (d : decode cc pc = .ok (.tableswitch dflt 0 hi offs, len)) (tgt : Nat) (ht : (pc : Int) + dflt = (tgt : Int)) (tg : Nat → Nat) (hoffs : ∀ i, i < N → ∃ off, offs[i]? = some off ∧ (pc : Int) + off = (tg i : Int)) (kd : gZ x A Q nL cells slots V n tgt lv st) (kk : ∀ i, i < N → v = nI i → gZ x A Q nL cells slots V n (tg i) lv st) : gZ x A Q nL cells slots V n pc lv (.int v :: st) := by
  by_cases hin : v < 0 ∨ N ≤ v.toNatClampNeg
  · have hout : v.toInt < 0 ∨ hi < v.toInt := by
      by_cases q0 : v < 0
      · exact Or.inl (by simpa using Int32.lt_iff_toInt_lt.mp q0)
      · have q : N ≤ v.toNatClampNeg := hin.resolve_left q0
        have q1 : (0 : Int) ≤ v.toInt := by simpa using Int32.le_iff_toInt_le.mp (Int32.not_lt.mp q0)
        refine Or.inr ?_
        have : v.toInt.toNat = v.toNatClampNeg := rfl
        omega
    obtain ⟨p, l, e, R, s, m, args, below, meth, c, D, dA⟩ := x
    exact fun H locs ls hH hls => lv_tableOut C.1 C.2.1 d hout ht (kd H locs ls hH hls)
  · obtain ⟨j, hj, rfl⟩ := vp_in_of (x := v) (n := N) hin hN2
    have k8 := kk j hj rfl
    obtain ⟨off, ho, hto⟩ := hoffs j hj
    obtain ⟨p, l, e, R, s, m, args, below, meth, c, D, dA⟩ := x
    have hv : (nI j).toInt = (j : Int) := nI_toInt (by omega)
    exact fun H locs ls hH hls => lv_tableIn C.1 C.2.1 d (by rw [hv]; omega) (by rw [hv]; omega) (by rw [hv, show ((j : Int) - 0).toNat = j by omega]; exact ho) hto (k8 H locs ls hH hls)
/-- behind a call whose end is h_Q -/
theorem g_after (C : gC x A cc own nL F L MC MS) {mc1 ms1 : Nat} {P : Int32 → zV → Nat → Prop} (hrun : match x with
  | (p, l, e, R, s, m, args, below, meth, c, D, dA) => ∀ (H : Heap) (locs : List Loc) (ls : Array Slot), z_H D dA zcl A s.heap V n H locs → lv_has ls nL lv → ∃ a1 : Array Value, va_Run p l e R s m args below meth c H locs cells slots mc1 ms1 (F0 m pc ls st0) rest (h_Q D dA V n P a1) (z_A V n))
    (kk : ∀ k V' n', P k V' n' → gZ x A Q nL (cells + mc1) (slots + ms1) V' n' (pc + 3) lv (.int k :: rest)) : gZ x A Q nL cells slots V n pc lv st0 := by
  obtain ⟨p, l, e, R, s, m, args, below, meth, c, D, dA⟩ := x
  obtain ⟨hx, hb, hml, hown, hts, hK, hA, hlocks, hl, hR⟩ := C
  intro H locs ls hH hls T hT X
  have hAA := g_AA hA hH
  obtain ⟨a1, hr9⟩ := hrun H locs ls hH hls
  obtain ⟨v, st₀, t, T', L1, h0, X', hL, e1, e2, ⟨k, V', n', hv1, hP9, hsz, hP', hA', hF⟩, st⟩ := hr9 T hT X
  cases hv1
  obtain ⟨k1, k2, k3⟩ := vx_keep h0 e1 hH.1 (fun q _ h => hAA q h) hAA hL hF
  obtain ⟨t2, b1, b2⟩ := kk k V' n' hP9 T'.heap (locs ++ L1) ls ⟨k3, by rw [e1]; exact hsz, by rw [e1]; exact hP', fun a y ha => hAA a (hA' a y ha)⟩ hls T' rfl X'
  exact ⟨t2, st t2 b1, b2⟩
theorem g_callH (C : gC x A cc own nL F L MC MS) (hNN : match x with | (_, _, _, _, s, _, _, _, _, _, _, _) => hN s) {y : MethodName} {bytes : ByteArray} {maxL k idx F1 L1 mc1 ms1 : Nat} {hh : List (Nat × Nat × Nat × Nat)} {P : Int32 → zV → Nat → Prop} (As : List Value) (hw : zCS own idx y k) (hcw : Cond.codeWith y bytes maxL (some .int) hh ∈ zTs)
    (hM : ∀ (l : Launch) (D : va_G) (dA : Nat → ClassId), l.stackTraces = false → h_Met l y bytes maxL hh F1 L1 mc1 ms1 As D dA V n P) (hF : F1 + 1 ≤ F) (hL : 8 + (maxL + 11) + L1 ≤ L) (hk : As.length = k) (hst : st0 = As.reverse ++ rest) (hrm : (rest.map fun v => v.category).sum ≤ 8) (d : decode cc pc = .ok (.invokestatic idx, 3)) (hc1 : cells + mc1 ≤ MC) (hs1 : slots + ms1 ≤ MS)
    (kk : ∀ k V' n', P k V' n' → gZ x A Q nL (cells + mc1) (slots + ms1) V' n' (pc + 3) lv (.int k :: rest)) : gZ x A Q nL cells slots V n pc lv st0 := by
  refine g_after C (mc1 := mc1) (ms1 := ms1) (P := P) ?_ kk
  obtain ⟨p, l, e, R, s, m, args, below, meth, c, D, dA⟩ := x
  obtain ⟨hx, hb, hml, hown, hts, hK, hA, hlocks, hl, hR⟩ := C
  obtain ⟨q1, q2, q3, q4, q5, q6⟩ := hw
  intro H locs ls hH hls
  refine ⟨_, vx_runSW ⟨hx, hb, hml, hown, hts⟩ (hM l D dA hl) (vx_cwSW k hts (fun w hw => ?_) rfl rfl rfl ⟨q4, q5, q6⟩ (by rw [hR]; exact ⟨hF, hL⟩)) ⟨fun a U g mk q => ?_, fun U hU hW => ⟨rfl, by rw [hU]; exact hH.2.1, by rw [hU]; exact hH.2.2.1, hK.move hH.1 hU hW (g_AA hA hH), fun q hq => (hNN q hq).moved hW.alike⟩⟩ rfl hk hls.1 hst (lv_room hrm) d (by rw [hR]; exact ⟨hc1, hs1⟩)⟩
  · rcases List.mem_append.mp hw with h | h
    · simp only [List.mem_cons, List.not_mem_nil, or_false] at h
      rcases h with h | h | h
      · rw [h]; exact zTs_good _ q1
      · rw [h]; exact zTs_good _ q2
      · rw [h]; exact zTs_good _ q3
    · exact (List.mem_cons.mp h).elim (fun e9 => by rw [e9]; exact zTs_good _ hcw) (zTs_good w)
  · obtain ⟨g0, g1, g2, g3, g4⟩ := q
    exact ⟨g0, g1, g2, g3.move (va_S.rf) rfl (State.WarmedH.refl U) (fun _ h => h), fun q hq => (g4 q hq).moved (Vm.Alike.refl U.vm)⟩
end GL
