/-! MAKING cells; casts; null; a switch; Math.max, Math.min; System.arraycopy within one array -/
def zna (V : zV) (n t B : Nat) (len : Int32) (K : Nat → Option zR) : Option zR := if len < 0 ∨ B < len.toNatClampNeg then none else K len.toNatClampNeg
def zinst (V : zV) (r : Option Nat) (cs : List Nat) (ci : Nat) : Option Int32 := (z_obj V r cs).bind fun o => some (if o.2.1 = ci then 1 else 0)
def zsw (v : Int32) (N : Nat) (B : Nat → Option zR) (D : Option zR) : Option zR := if v < 0 ∨ N ≤ v.toNatClampNeg then D else B v.toNatClampNeg
def zcpI (V : zV) (r : Option Nat) (t : Nat) (sp dp m : Int32) : Option zV := (z_arr V r t).bind fun q => match q.2.2 with
  | .inl f => if sp < 0 ∨ dp < 0 ∨ m < 0 ∨ q.2.1 < sp.toNatClampNeg + m.toNatClampNeg ∨ q.2.1 < dp.toNatClampNeg + m.toNatClampNeg then none else some (z_up V q.1 (.inl (t, q.2.1, .inl (va_cpy f f sp.toNatClampNeg dp.toNatClampNeg m.toNatClampNeg))))
  | _ => none
def zcpL (V : zV) (r : Option Nat) (t : Nat) (sp dp m : Int32) : Option zV := (z_arr V r t).bind fun q => match q.2.2 with
  | .inr (.inl f) => if sp < 0 ∨ dp < 0 ∨ m < 0 ∨ q.2.1 < sp.toNatClampNeg + m.toNatClampNeg ∨ q.2.1 < dp.toNatClampNeg + m.toNatClampNeg then none else some (z_up V q.1 (.inl (t, q.2.1, .inr (.inl (va_cpy f f sp.toNatClampNeg dp.toNatClampNeg m.toNatClampNeg)))))
  | _ => none
section ZN
variable {x : zX} {cc : ByteArray} {own nm : String} {nL F L MC MS : Nat} {ret : Option FieldType} {cells slots : Nat} {w : zR} {V : zV} {n pc : Nat} {lv lv' : List (Nat × Value)} {st : List Value}
theorem z_new (C : zC x cc own nm nL F L ret) (M : zM x MC MS) {ci idx N : Nat} {C1 : String} {T : u_T} {ty : Nat → FieldType} {fs : List Value} (hc : zcl[ci]? = some (C1, T, N)) (hin : ∀ w ∈ u_ws C1 T N, w ∈ zTs) (hty : ∀ k, k < N → parseFieldDescriptor (T k).2.2.1 = some (ty k)) (hfs : ∀ j, j < N → defaultValue (ty j) = vp_V fs j) (h1 : Cond.classLink own idx C1 ∈ zTs) (h2 : Cond.instantiable C1 N ∈ zTs) (h3 : Cond.initialized C1 ∈ zTs) (hcells : cells + 1 ≤ MC) (hslots : slots + N ≤ MS) (d : decode cc pc = .ok (.new idx, 3)) (k9 : zZ x nL (cells + 1) (slots + N) w (z_up V n (.inr (ci, fs))) (n + 1) (pc + 3) lv (va_rf (some n) :: st)) : zZ x nL cells slots w V n pc lv st := by
  obtain ⟨p, l, e, R, s, m, args, below, meth, c, D, dA, V0, n0, mc, ms⟩ := x
  obtain ⟨hx, hb, hml, hown, hts, hK, hn0, hlocks, hr, hnm, hout, hl, hR⟩ := C
  obtain ⟨rfl, rfl⟩ := M
  intro H locs ls hH hls
  have hKn := hK.1.1 ci _ hc
  refine W.newcK hx hb hown (hts _ h1) (hts _ h2) (hts _ h3) rfl d (by rw [hR]; exact hcells) (by rw [hR]; exact hslots) hKn.2.1 hH.2.1 fun H1 kC hkC e1 z1 o1 => ?_
  exact k9 H1 locs ls (hH.push (fun q hq => Or.inr (by omega)) (x := .inr (ci, fs)) ⟨_, hc, (u_born ty hts hin hKn hkC e1 hty).to hfs⟩ z1 o1) hls
theorem z_newa (C : zC x cc own nm nL F L ret) (M : zM x MC MS) {t B : Nat} {at9 : ArrayType} {ty : FieldType} {u : (Nat → Int32) ⊕ (Nat → Int64) ⊕ (Nat → UInt32) ⊕ (Nat → UInt64) ⊕ (Nat → Option Nat)} {len : Int32} (ht : ztl[t]? = some ty) (hty : newarray.typeOf at9 = ty) (hcl : Cond.arrayClass ty ∈ zTs) (hra : ∀ (s : State) (cA : ClassId), va_RA s cA ty = (s.vm.findClass ("[" ++ ty.toString) = some cA)) (hu : ∀ (cA : ClassId) (N : Nat), vp_cell cA (N, u) = arrV cA N (fun _ => defaultValue ty)) (hB : B * componentBytes ty ≤ 536870912) (hcells : cells + 1 ≤ MC) (hslots : slots + B ≤ MS) (d : decode cc pc = .ok (.newarray at9, 2)) {K : Nat → Option zR} (h : zna V n t B len K = some w) (k9 : ∀ N : Nat, N = len.toNatClampNeg → ¬ len < 0 → N ≤ B → K N = some w → zZ x nL (cells + 1) (slots + B) w (z_up V n (.inl (t, N, u))) (n + 1) (pc + 2) lv (va_rf (some n) :: st)) : zZ x nL cells slots w V n pc lv (.int len :: st) := by
  unfold zna at h
  by_cases hb9 : len < 0 ∨ B < len.toNatClampNeg
  · rw [if_pos hb9] at h; cases h
  · rw [if_neg hb9] at h
    have hn0 : ¬ len < 0 := fun q => hb9 (Or.inl q)
    have hlB : len.toNatClampNeg ≤ B := Nat.not_lt.mp fun q => hb9 (Or.inr q)
    have k8 := k9 _ rfl hn0 hlB h
    subst hty
    obtain ⟨p, l, e, R, s, m, args, below, meth, c, D, dA, V0, n0, mc, ms⟩ := x
    obtain ⟨hx, hb, hml, hown, hts, hK, hn0', hlocks, hr, hnm, hout, hl, hR⟩ := C
    obtain ⟨rfl, rfl⟩ := M
    intro H locs ls hH hls
    refine va_newaK hx hb (hts _ hcl) rfl d rfl hn0 rfl (Nat.le_trans (Nat.mul_le_mul_right _ hlB) hB) (by rw [hR]; exact hcells) (by rw [hR]; exact Nat.le_trans (Nat.add_le_add_left hlB _) hslots) hH.2.1 fun H1 cA e1 z1 o1 hA9 hf9 => ?_
    have hra9 := (hK.2.1 t _ ht).2
    rw [hra] at hra9
    cases hf9.symm.trans hra9
    refine W.widen (Nat.le_refl _) (Nat.add_le_add_left hlB _) (k8 H1 locs ls (hH.push (fun q hq => Or.inr (by omega)) (x := .inl (t, len.toNatClampNeg, u)) ?_ z1 o1) hls)
    show H1[n]? = some (vp_cell _ _)
    rw [hu]; exact e1
theorem z_anew (C : zC x cc own nm nL F L ret) (M : zM x MC MS) {t B idx : Nat} {E : String} {len : Int32} (ht : ztl[t]? = some (.object E)) (h1 : Cond.classLink own idx E ∈ zTs) (h2 : E ∈ zao) (hB : B * 4 ≤ 536870912) (hcells : cells + 1 ≤ MC) (hslots : slots + B ≤ MS) (d : decode cc pc = .ok (.anewarray idx, 3)) {K : Nat → Option zR} (h : zna V n t B len K = some w) (k9 : ∀ N : Nat, N = len.toNatClampNeg → ¬ len < 0 → N ≤ B → K N = some w → zZ x nL (cells + 1) (slots + B) w (z_up V n (.inl (t, N, .inr (.inr (.inr (.inr (fun _ => none))))))) (n + 1) (pc + 3) lv (va_rf (some n) :: st)) : zZ x nL cells slots w V n pc lv (.int len :: st) := by
  unfold zna at h
  by_cases hb9 : len < 0 ∨ B < len.toNatClampNeg
  · rw [if_pos hb9] at h; cases h
  · rw [if_neg hb9] at h
    have hn0 : ¬ len < 0 := fun q => hb9 (Or.inl q)
    have hlB : len.toNatClampNeg ≤ B := Nat.not_lt.mp fun q => hb9 (Or.inr q)
    have k8 := k9 _ rfl hn0 hlB h
    obtain ⟨p, l, e, R, s, m, args, below, meth, c, D, dA, V0, n0, mc, ms⟩ := x
    obtain ⟨hx, hb, hml, hown, hts, hK, hn0', hlocks, hr, hnm, hout, hl, hR⟩ := C
    obtain ⟨rfl, rfl⟩ := M
    intro H locs ls hH hls
    refine W.anew hx hb hown (hts _ h1) (va_AO.use (hK.2.2.2.2.2.2.2.2.2 _ h2)) rfl d rfl hn0 (Nat.le_trans (Nat.mul_le_mul_right _ hlB) hB) (by rw [hR]; exact hcells) (by rw [hR]; exact Nat.le_trans (Nat.add_le_add_left hlB _) hslots) fun cA kA comp f1 f2 f3 f4 => ?_
    obtain ⟨kA', comp', g1, g2, g3, g4⟩ := (hK.2.1 t _ ht).2
    cases f1.symm.trans g4
    have hsz : H.size = n := hH.2.1
    rw [hsz]
    refine W.widen (Nat.le_refl _) (Nat.add_le_add_left hlB _) (k8 _ locs ls (hH.push (fun q hq => Or.inr (by omega)) (x := .inl (t, len.toNatClampNeg, .inr (.inr (.inr (.inr (fun _ => none)))))) ?_ (by rw [Array.size_push, hsz]) (fun q hq => by rw [Array.getElem?_push_lt (by omega), Array.getElem?_eq_getElem (by omega)])) hls)
    show (H.push _)[n]? = some (vp_cell _ _)
    rw [← hsz, Array.getElem?_push_size, arrV_new, vp_cell_q]
    rfl
theorem z_inst (C : zC x cc own nm nL F L ret) {r : Option Nat} {cs : List Nat} {ci idx : Nat} {E : String} (h1 : Cond.classLink own idx E ∈ zTs) (hE : ∀ cj ∈ cs, ∃ q, zcl[cj]? = some q ∧ ((cj = ci ∧ (q.1, E) ∈ zcast) ∨ (cj ≠ ci ∧ (q.1, E) ∈ znc))) (d : decode cc pc = .ok (.instanceof idx, 3)) {K : Int32 → Option zR} (h : (zinst V r cs ci).bind K = some w) (k9 : ∀ v, K v = some w → zZ x nL cells slots w V n (pc + 3) lv (.int v :: st)) : zZ x nL cells slots w V n pc lv (va_rf r :: st) := by
  unfold zinst at h
  cases ho : z_obj V r cs with
  | none => rw [ho] at h; cases h
  | some o =>
    rw [ho] at h
    obtain ⟨rfl, g2, g3⟩ := z_obj_some ho
    simp only [Option.bind_some] at h
    have k8 := k9 _ h
    obtain ⟨a, cj, fs⟩ := o
    dsimp only at g2 g3 k8 ⊢
    obtain ⟨q, hc, hq⟩ := hE cj (by simpa using g3)
    obtain ⟨p, l, e, R, s, m, args, below, meth, c, D, dA, V0, n0, mc, ms⟩ := x
    obtain ⟨hx, hb, hml, hown, hts, hK, -⟩ := C
    intro H locs ls hH hls
    have hrec := va_recv hK.1 (hH.2.2.1.one g2) (ci := cj) (q0 := 0) hc rfl
    rcases hq with ⟨e9, e8⟩ | ⟨e9, e8⟩
    · rw [if_pos e9] at k8
      exact va_instY hx hb hown (hts _ h1) (hK.2.2.2.2.2.2.1 _ e8) hrec d (k8 H locs ls hH hls)
    · rw [if_neg e9] at k8
      exact va_instNo hx hb hown (hts _ h1) (hK.2.2.2.2.2.1 _ e8) hrec d (k8 H locs ls hH hls)
theorem z_chk (C : zC x cc own nm nL F L ret) {r : Option Nat} {cs : List Nat} {idx : Nat} {E : String} (h1 : Cond.classLink own idx E ∈ zTs) (hE : ∀ cj ∈ cs, ∃ q, zcl[cj]? = some q ∧ (q.1, E) ∈ zcast) (d : decode cc pc = .ok (.checkcast idx, 3)) {K : Nat × Nat × List Value → Option zR} (h : (z_obj V r cs).bind K = some w) (k9 : ∀ o, K o = some w → zZ x nL cells slots w V n (pc + 3) lv (va_rf r :: st)) : zZ x nL cells slots w V n pc lv (va_rf r :: st) := by
  cases ho : z_obj V r cs with
  | none => rw [ho] at h; cases h
  | some o =>
    rw [ho] at h
    obtain ⟨rfl, g2, g3⟩ := z_obj_some ho
    simp only [Option.bind_some] at h
    have k8 := k9 _ h
    obtain ⟨a, cj, fs⟩ := o
    dsimp only at g2 g3 k8 ⊢
    obtain ⟨q, hc, hq⟩ := hE cj (by simpa using g3)
    obtain ⟨p, l, e, R, s, m, args, below, meth, c, D, dA, V0, n0, mc, ms⟩ := x
    obtain ⟨hx, hb, hml, hown, hts, hK, -⟩ := C
    exact fun H locs ls hH hls => va_castY hx hb hown (hts _ h1) (hK.2.2.2.2.2.2.1 _ hq) (va_recv hK.1 (hH.2.2.1.one g2) (ci := cj) (q0 := 0) hc rfl) d (k8 H locs ls hH hls)
theorem z_ifnonnull (C : zC x cc own nm nL F L ret) {r : Option Nat} {off : Int} {A B : Option zR} (tgt : Nat) (d : decode cc pc = .ok (.ifnonnull off, 3)) (ht : (pc : Int) + off = (tgt : Int)) (h : (if r = none then B else A) = some w) (kt : A = some w → zZ x nL cells slots w V n tgt lv st) (kf : B = some w → zZ x nL cells slots w V n (pc + 3) lv st) : zZ x nL cells slots w V n pc lv (va_rf r :: st) := by
  obtain ⟨p, l, e, R, s, m, args, below, meth, c, D, dA, V0, n0, mc, ms⟩ := x
  intro H locs ls hH hls
  cases r with
  | none => exact lv_ifnonnullN C.1 C.2.1 d (kf (by rw [if_pos rfl] at h; exact h) H locs ls hH hls)
  | some a => exact lv_ifnonnull C.1 C.2.1 d ht (kt (by rw [if_neg (by simp)] at h; exact h) H locs ls hH hls)
theorem z_tsw (C : zC x cc own nm nL F L ret) {v : Int32} {dflt : Int} {N len : Nat} {hi : Int} {offs : Array Int} {B : Nat → Option zR} {Dd : Option zR} (hN : hi + 1 = (N : Int)) (hN2 : N < 2 ^ 31) (d : decode cc pc = .ok (.tableswitch dflt 0 hi offs, len)) (tgt : Nat) (ht : (pc : Int) + dflt = (tgt : Int)) (tg : Nat → Nat) (hoffs : ∀ i, i < N → ∃ off, offs[i]? = some off ∧ (pc : Int) + off = (tg i : Int)) (h : zsw v N B Dd = some w) (kd : Dd = some w → zZ x nL cells slots w V n tgt lv st) (kk : ∀ i, i < N → v = nI i → B i = some w → zZ x nL cells slots w V n (tg i) lv st) : zZ x nL cells slots w V n pc lv (.int v :: st) := by
  unfold zsw at h
  by_cases hin : v < 0 ∨ N ≤ v.toNatClampNeg
  · rw [if_pos hin] at h
    have k8 := kd h
    have hout : v.toInt < 0 ∨ hi < v.toInt := by
      by_cases q0 : v < 0
      · exact Or.inl (by simpa using Int32.lt_iff_toInt_lt.mp q0)
      · have q : N ≤ v.toNatClampNeg := hin.resolve_left q0
        have q1 : (0 : Int) ≤ v.toInt := by simpa using Int32.le_iff_toInt_le.mp (Int32.not_lt.mp q0)
        refine Or.inr ?_
        have : v.toInt.toNat = v.toNatClampNeg := rfl
        omega
    obtain ⟨p, l, e, R, s, m, args, below, meth, c, D, dA, V0, n0, mc, ms⟩ := x
    exact fun H locs ls hH hls => lv_tableOut C.1 C.2.1 d hout ht (k8 H locs ls hH hls)
  · rw [if_neg hin] at h
    obtain ⟨j, hj, rfl⟩ := vp_in_of (x := v) (n := N) hin hN2
    rw [nI_clamp (by omega)] at h
    have k8 := kk j hj rfl h
    obtain ⟨off, ho, hto⟩ := hoffs j hj
    obtain ⟨p, l, e, R, s, m, args, below, meth, c, D, dA, V0, n0, mc, ms⟩ := x
    have hv : (nI j).toInt = (j : Int) := nI_toInt (by omega)
    exact fun H locs ls hH hls => lv_tableIn C.1 C.2.1 d (by rw [hv]; omega) (by rw [hv]; omega) (by rw [hv, show ((j : Int) - 0).toNat = j by omega]; exact ho) hto (k8 H locs ls hH hls)
theorem z_max (C : zC x cc own nm nL F L ret) (M : zM x MC MS) {a b : Int32} {idx : Nat} (h1 : Cond.methodLink own idx Lib.Math.max.name ∈ zTs) (h2 : Cond.static Lib.Math.max.name ∈ zTs) (h3 : Cond.initialized "java/lang/Math" ∈ zTs) (h4 : Cond.code Lib.Math.max.name Lib.Math.max.code 2 (some .int) ∈ zTs) (hF : 1 ≤ F) (hL : (st.map fun v => v.category).sum + 13 ≤ L) (hc : cells ≤ MC) (hs : slots ≤ MS) (d : decode cc pc = .ok (.invokestatic idx, 3)) (k9 : zZ x nL cells slots w V n (pc + 3) lv (.int (if a < b then b else a) :: st)) : zZ x nL cells slots w V n pc lv (.int b :: .int a :: st) := by
  obtain ⟨p, l, e, R, s, m, args, below, meth, c, D, dA, V0, n0, mc, ms⟩ := x
  obtain ⟨hx, hb, hml, hown, hts, hK, hn0, hlocks, hr, hnm, hout, hl, hR⟩ := C
  obtain ⟨rfl, rfl⟩ := M
  exact fun H locs ls hH hls => va_mmax hx hb (hml.trans hls.1.symm) hown (hts _ h1) (hts _ h2) (hts _ h3) (hts _ h4) (by rw [hR]; exact hF) (by rw [hR]; exact hL) (by rw [hR]; exact hc) (by rw [hR]; exact hs) d (k9 H locs ls hH hls)
theorem z_min (C : zC x cc own nm nL F L ret) (M : zM x MC MS) {a b : Int32} {idx : Nat} (h1 : Cond.methodLink own idx Lib.Math.min.name ∈ zTs) (h2 : Cond.static Lib.Math.min.name ∈ zTs) (h3 : Cond.initialized "java/lang/Math" ∈ zTs) (h4 : Cond.code Lib.Math.min.name Lib.Math.min.code 2 (some .int) ∈ zTs) (hF : 1 ≤ F) (hL : (st.map fun v => v.category).sum + 13 ≤ L) (hc : cells ≤ MC) (hs : slots ≤ MS) (d : decode cc pc = .ok (.invokestatic idx, 3)) (k9 : zZ x nL cells slots w V n (pc + 3) lv (.int (if b < a then b else a) :: st)) : zZ x nL cells slots w V n pc lv (.int b :: .int a :: st) := by
  obtain ⟨p, l, e, R, s, m, args, below, meth, c, D, dA, V0, n0, mc, ms⟩ := x
  obtain ⟨hx, hb, hml, hown, hts, hK, hn0, hlocks, hr, hnm, hout, hl, hR⟩ := C
  obtain ⟨rfl, rfl⟩ := M
  exact fun H locs ls hH hls => va_mmin hx hb (hml.trans hls.1.symm) hown (hts _ h1) (hts _ h2) (hts _ h3) (hts _ h4) (by rw [hR]; exact hF) (by rw [hR]; exact hL) (by rw [hR]; exact hc) (by rw [hR]; exact hs) d (k9 H locs ls hH hls)
end ZN
