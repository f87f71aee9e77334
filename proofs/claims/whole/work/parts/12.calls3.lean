/-! CALLS that never throw: an abstract method of Channel, on a Source (class 1) or a Line (class 2); constructors -/
def zdI (fr : Option zR) (K : Int32 → zV → Nat → Option zR) : Option zR := fr.bind fun w1 => match w1.1 with
  | .inl (some (.int i)) => K i w1.2.1 w1.2.2
  | _ => none
def zdL (fr : Option zR) (K : Int64 → zV → Nat → Option zR) : Option zR := fr.bind fun w1 => match w1.1 with
  | .inl (some (.long i)) => K i w1.2.1 w1.2.2
  | _ => none
def zdV (fr : Option zR) (K : zV → Nat → Option zR) : Option zR := fr.bind fun w1 => match w1.1 with
  | .inl none => K w1.2.1 w1.2.2
  | _ => none
section ZD
variable {x : zX} {cc : ByteArray} {own nm : String} {nL F L MC MS : Nat} {ret : Option FieldType} {cells slots : Nat} {w w1 : zR} {V : zV} {n pc : Nat} {lv lv' : List (Nat × Value)} {st st0 rest : List Value}
theorem zd_I {fr : Option zR} {K : Int32 → zV → Nat → Option zR} (h : zdI fr K = some w) : ∃ w1 i, fr = some w1 ∧ w1.1 = .inl (some (.int i)) ∧ K i w1.2.1 w1.2.2 = some w := by
  unfold zdI at h
  cases hfr : fr with
  | none => rw [hfr] at h; cases h
  | some w1 =>
    rw [hfr] at h
    simp only [Option.bind_some] at h
    split at h
    · rename_i i e
      exact ⟨w1, i, rfl, e, h⟩
    · cases h
theorem zd_L {fr : Option zR} {K : Int64 → zV → Nat → Option zR} (h : zdL fr K = some w) : ∃ w1 i, fr = some w1 ∧ w1.1 = .inl (some (.long i)) ∧ K i w1.2.1 w1.2.2 = some w := by
  unfold zdL at h
  cases hfr : fr with
  | none => rw [hfr] at h; cases h
  | some w1 =>
    rw [hfr] at h
    simp only [Option.bind_some] at h
    split at h
    · rename_i i e
      exact ⟨w1, i, rfl, e, h⟩
    · cases h
theorem zd_V {fr : Option zR} {K : zV → Nat → Option zR} (h : zdV fr K = some w) : ∃ w1, fr = some w1 ∧ w1.1 = .inl none ∧ K w1.2.1 w1.2.2 = some w := by
  unfold zdV at h
  cases hfr : fr with
  | none => rw [hfr] at h; cases h
  | some w1 =>
    rw [hfr] at h
    simp only [Option.bind_some] at h
    split at h
    · rename_i e
      exact ⟨w1, rfl, e, h⟩
    · cases h
theorem z_done (C : zC x cc own nm nL F L ret) (M : zM x MC MS) {mc1 ms1 : Nat} {v : Option Value} (hv : w1.1 = .inl v) (hrun : zRun x nL cells slots mc1 ms1 w1 V n pc lv st0 rest) (kk : zZ x nL (cells + mc1) (slots + ms1) w w1.2.1 w1.2.2 (pc + 3) lv (v.toList ++ rest)) : zZ x nL cells slots w V n pc lv st0 := by
  refine z_core C M hrun (fun v' hv' => ?_) (fun E hE => ?_)
  · rw [hv] at hv'; cases hv'; exact kk
  · rw [hv] at hE; cases hE
theorem z_aPI (C : zC x cc own nm nL F L ret) (M : zM x MC MS) {xn y1 y2 : MethodName} {b1 b2 : ByteArray} {x1 x2 k idx F1 F2 L1 L2 N1 N2 : Nat} {rt : Option FieldType} {C1 C2 owner : String} {T1 T2 : u_T} {r : Option Nat} (hr : cells ≤ MC ∧ slots ≤ MS) (As : List Value) (hw1 : zCA own idx C1 owner xn y1 b1 x1 rt k) (hw2 : zCA own idx C2 owner xn y2 b2 x2 rt k) (hc1 : zcl[1]? = some (C1, T1, N1)) (hc2 : zcl[2]? = some (C2, T2, N2)) (hF1 : F1 + 1 ≤ F) (hL1 : 8 + (x1 + 11) + L1 ≤ L) (hF2 : F2 + 1 ≤ F) (hL2 : 8 + (x2 + 11) + L2 ≤ L) (hk : As.length = k) (hst : st0 = As.reverse ++ va_rf r :: rest) (hrm : (rest.map fun v => v.category).sum ≤ 8) (d : decode cc pc = .ok (.invokevirtual idx, 3)) (f1 f2 : Nat → Option zR) {K : Int32 → zV → Nat → Option zR} (h : ((z_obj V r [1, 2]).bind fun o => zdI (if o.2.1 = 1 then f1 o.1 else f2 o.1) K) = some w) (hM1 : ∀ b w1, f1 b = some w1 → ∀ (l : Launch) (D : va_G) (dA : Nat → ClassId), l.stackTraces = false → z_Met l y1 b1 x1 rt F1 L1 (zc w1) (zs w1) (.ref b :: As) D dA V n w1) (hM2 : ∀ b w1, f2 b = some w1 → ∀ (l : Launch) (D : va_G) (dA : Nat → ClassId), l.stackTraces = false → z_Met l y2 b2 x2 rt F2 L2 (zc w1) (zs w1) (.ref b :: As) D dA V n w1) (kk : ∀ i V' n', K i V' n' = some w → zZ x nL cells slots w V' n' (pc + 3) lv (.int i :: rest)) : zZ x nL cells slots w V n pc lv st0 := by
  cases ho : z_obj V r [1, 2] with
  | none => rw [ho] at h; cases h
  | some o =>
    rw [ho] at h
    simp only [Option.bind_some] at h
    obtain ⟨rfl, g2, g3⟩ := z_obj_some ho
    obtain ⟨b, cj, fs⟩ := o
    dsimp only at g2 g3 hst h ⊢
    obtain ⟨w1, i, e1, e2, e3⟩ := zd_I h
    have z1 : zc w1 = 0 := by unfold zc; rw [e2]
    have z2 : zs w1 = 0 := by unfold zs; rw [e2]
    have k8 := kk i _ _ e3
    rcases (show cj = 1 ∨ cj = 2 by simpa using g3) with rfl | rfl
    · rw [if_pos rfl] at e1
      refine z_done C M e2 (z_runA C M hw1 g2 hc1 (hM1 b w1 e1) e2 hF1 hL1 hk hst hrm d (by rw [z1]; exact hr.1) (by rw [z2]; exact hr.2)) ?_
      rw [z1, z2]; exact k8
    · rw [if_neg (by decide)] at e1
      refine z_done C M e2 (z_runA C M hw2 g2 hc2 (hM2 b w1 e1) e2 hF2 hL2 hk hst hrm d (by rw [z1]; exact hr.1) (by rw [z2]; exact hr.2)) ?_
      rw [z1, z2]; exact k8
theorem z_aPL (C : zC x cc own nm nL F L ret) (M : zM x MC MS) {xn y1 y2 : MethodName} {b1 b2 : ByteArray} {x1 x2 k idx F1 F2 L1 L2 N1 N2 : Nat} {rt : Option FieldType} {C1 C2 owner : String} {T1 T2 : u_T} {r : Option Nat} (hr : cells ≤ MC ∧ slots ≤ MS) (As : List Value) (hw1 : zCA own idx C1 owner xn y1 b1 x1 rt k) (hw2 : zCA own idx C2 owner xn y2 b2 x2 rt k) (hc1 : zcl[1]? = some (C1, T1, N1)) (hc2 : zcl[2]? = some (C2, T2, N2)) (hF1 : F1 + 1 ≤ F) (hL1 : 8 + (x1 + 11) + L1 ≤ L) (hF2 : F2 + 1 ≤ F) (hL2 : 8 + (x2 + 11) + L2 ≤ L) (hk : As.length = k) (hst : st0 = As.reverse ++ va_rf r :: rest) (hrm : (rest.map fun v => v.category).sum ≤ 8) (d : decode cc pc = .ok (.invokevirtual idx, 3)) (f1 f2 : Nat → Option zR) {K : Int64 → zV → Nat → Option zR} (h : ((z_obj V r [1, 2]).bind fun o => zdL (if o.2.1 = 1 then f1 o.1 else f2 o.1) K) = some w) (hM1 : ∀ b w1, f1 b = some w1 → ∀ (l : Launch) (D : va_G) (dA : Nat → ClassId), l.stackTraces = false → z_Met l y1 b1 x1 rt F1 L1 (zc w1) (zs w1) (.ref b :: As) D dA V n w1) (hM2 : ∀ b w1, f2 b = some w1 → ∀ (l : Launch) (D : va_G) (dA : Nat → ClassId), l.stackTraces = false → z_Met l y2 b2 x2 rt F2 L2 (zc w1) (zs w1) (.ref b :: As) D dA V n w1) (kk : ∀ i V' n', K i V' n' = some w → zZ x nL cells slots w V' n' (pc + 3) lv (.long i :: rest)) : zZ x nL cells slots w V n pc lv st0 := by
  cases ho : z_obj V r [1, 2] with
  | none => rw [ho] at h; cases h
  | some o =>
    rw [ho] at h
    simp only [Option.bind_some] at h
    obtain ⟨rfl, g2, g3⟩ := z_obj_some ho
    obtain ⟨b, cj, fs⟩ := o
    dsimp only at g2 g3 hst h ⊢
    obtain ⟨w1, i, e1, e2, e3⟩ := zd_L h
    have z1 : zc w1 = 0 := by unfold zc; rw [e2]
    have z2 : zs w1 = 0 := by unfold zs; rw [e2]
    have k8 := kk i _ _ e3
    rcases (show cj = 1 ∨ cj = 2 by simpa using g3) with rfl | rfl
    · rw [if_pos rfl] at e1
      refine z_done C M e2 (z_runA C M hw1 g2 hc1 (hM1 b w1 e1) e2 hF1 hL1 hk hst hrm d (by rw [z1]; exact hr.1) (by rw [z2]; exact hr.2)) ?_
      rw [z1, z2]; exact k8
    · rw [if_neg (by decide)] at e1
      refine z_done C M e2 (z_runA C M hw2 g2 hc2 (hM2 b w1 e1) e2 hF2 hL2 hk hst hrm d (by rw [z1]; exact hr.1) (by rw [z2]; exact hr.2)) ?_
      rw [z1, z2]; exact k8
theorem z_aPV (C : zC x cc own nm nL F L ret) (M : zM x MC MS) {xn y1 y2 : MethodName} {b1 b2 : ByteArray} {x1 x2 k idx F1 F2 L1 L2 N1 N2 : Nat} {rt : Option FieldType} {C1 C2 owner : String} {T1 T2 : u_T} {r : Option Nat} (hr : cells ≤ MC ∧ slots ≤ MS) (As : List Value) (hw1 : zCA own idx C1 owner xn y1 b1 x1 rt k) (hw2 : zCA own idx C2 owner xn y2 b2 x2 rt k) (hc1 : zcl[1]? = some (C1, T1, N1)) (hc2 : zcl[2]? = some (C2, T2, N2)) (hF1 : F1 + 1 ≤ F) (hL1 : 8 + (x1 + 11) + L1 ≤ L) (hF2 : F2 + 1 ≤ F) (hL2 : 8 + (x2 + 11) + L2 ≤ L) (hk : As.length = k) (hst : st0 = As.reverse ++ va_rf r :: rest) (hrm : (rest.map fun v => v.category).sum ≤ 8) (d : decode cc pc = .ok (.invokevirtual idx, 3)) (f1 f2 : Nat → Option zR) {K : zV → Nat → Option zR} (h : ((z_obj V r [1, 2]).bind fun o => zdV (if o.2.1 = 1 then f1 o.1 else f2 o.1) K) = some w) (hM1 : ∀ b w1, f1 b = some w1 → ∀ (l : Launch) (D : va_G) (dA : Nat → ClassId), l.stackTraces = false → z_Met l y1 b1 x1 rt F1 L1 (zc w1) (zs w1) (.ref b :: As) D dA V n w1) (hM2 : ∀ b w1, f2 b = some w1 → ∀ (l : Launch) (D : va_G) (dA : Nat → ClassId), l.stackTraces = false → z_Met l y2 b2 x2 rt F2 L2 (zc w1) (zs w1) (.ref b :: As) D dA V n w1) (kk : ∀ V' n', K V' n' = some w → zZ x nL cells slots w V' n' (pc + 3) lv rest) : zZ x nL cells slots w V n pc lv st0 := by
  cases ho : z_obj V r [1, 2] with
  | none => rw [ho] at h; cases h
  | some o =>
    rw [ho] at h
    simp only [Option.bind_some] at h
    obtain ⟨rfl, g2, g3⟩ := z_obj_some ho
    obtain ⟨b, cj, fs⟩ := o
    dsimp only at g2 g3 hst h ⊢
    obtain ⟨w1, e1, e2, e3⟩ := zd_V h
    have z1 : zc w1 = 0 := by unfold zc; rw [e2]
    have z2 : zs w1 = 0 := by unfold zs; rw [e2]
    have k8 := kk _ _ e3
    rcases (show cj = 1 ∨ cj = 2 by simpa using g3) with rfl | rfl
    · rw [if_pos rfl] at e1
      refine z_done C M e2 (z_runA C M hw1 g2 hc1 (hM1 b w1 e1) e2 hF1 hL1 hk hst hrm d (by rw [z1]; exact hr.1) (by rw [z2]; exact hr.2)) ?_
      rw [z1, z2]; exact k8
    · rw [if_neg (by decide)] at e1
      refine z_done C M e2 (z_runA C M hw2 g2 hc2 (hM2 b w1 e1) e2 hF2 hL2 hk hst hrm d (by rw [z1]; exact hr.1) (by rw [z2]; exact hr.2)) ?_
      rw [z1, z2]; exact k8
theorem z_iS (C : zC x cc own nm nL F L ret) (M : zM x MC MS) {y : MethodName} {bytes : ByteArray} {maxL k idx F1 L1 b mc1 ms1 : Nat} (h1 : cells + mc1 ≤ MC) (h2 : slots + ms1 ≤ MS) (As : List Value) (hw : zCI own idx y bytes maxL k) (hF : F1 + 1 ≤ F) (hL : 8 + (maxL + 11) + L1 ≤ L) (hk : As.length = k) (hst : st0 = As.reverse ++ .ref b :: rest) (hrm : (rest.map fun v => v.category).sum ≤ 8) (d : decode cc pc = .ok (.invokespecial idx, 3)) {fr : Option zR} {K : zV → Nat → Option zR} (h : zdV fr K = some w) (hM : ∀ w1, fr = some w1 → ∀ (l : Launch) (D : va_G) (dA : Nat → ClassId), l.stackTraces = false → z_Met l y bytes maxL none F1 L1 mc1 ms1 (.ref b :: As) D dA V n w1) (kk : ∀ V' n', K V' n' = some w → zZ x nL (cells + mc1) (slots + ms1) w V' n' (pc + 3) lv rest) : zZ x nL cells slots w V n pc lv st0 := by
  obtain ⟨w1, e1, e2, e3⟩ := zd_V h
  exact z_done C M e2 (z_runI C M hw (hM w1 e1) e2 hF hL hk hst hrm d h1 h2) (kk _ _ e3)
theorem z_nS (C : zC x cc "BarrierMarks" nm nL F L ret) (M : zM x MC MS)  {bytes : ByteArray} {maxL k F1 L1 b mc1 ms1 : Nat} (h1 : cells + mc1 ≤ MC) (h2 : slots + ms1 ≤ MS) (As : List Value) (hw : zCN ⟨"BarrierMarks$AckRow", "<init>", "()V"⟩ bytes maxL k) (hF : F1 + 1 ≤ F) (hL : 8 + (maxL + 11) + L1 ≤ L) (hk : As.length = k) (hst : st0 = As.reverse ++ .ref b :: rest) (hrm : (rest.map fun v => v.category).sum ≤ 8) (d : decode cc pc = .ok (.invokespecial 23, 3)) {fr : Option zR} {K : zV → Nat → Option zR} (h : zdV fr K = some w) (hM : ∀ w1, fr = some w1 → ∀ (l : Launch) (D : va_G) (dA : Nat → ClassId), l.stackTraces = false → z_Met l ⟨"BarrierMarks$AckRow", "<init>", "()V"⟩ bytes maxL none F1 L1 mc1 ms1 (.ref b :: As) D dA V n w1) (kk : ∀ V' n', K V' n' = some w → zZ x nL (cells + mc1) (slots + ms1) w V' n' (pc + 3) lv rest) : zZ x nL cells slots w V n pc lv st0 := by
  obtain ⟨w1, e1, e2, e3⟩ := zd_V h
  exact z_done C M e2 (z_runN C M hw (hM w1 e1) e2 hF hL hk hst hrm d h1 h2) (kk _ _ e3)
end ZD
