/-! READING AND WRITING the map, as functions: none where the machine would throw by itself -/
def z_obj (V : zV) (r : Option Nat) (cs : List Nat) : Option (Nat × Nat × List Value) := r.bind fun a => (V a).bind fun x => match x with
  | .inr o => if cs.contains o.1 then some (a, o) else none
  | .inl _ => none
def z_arr (V : zV) (r : Option Nat) (t : Nat) : Option (Nat × vp_A) := r.bind fun a => (V a).bind fun x => match x with
  | .inl q => if q.1 = t then some (a, q.2) else none
  | .inr _ => none
def zgI (V : zV) (r : Option Nat) (cs : List Nat) (k : Nat) : Option Int32 := (z_obj V r cs).bind fun o => match o.2.2[k]? with
  | some (.int v) => some v
  | _ => none
def zgL (V : zV) (r : Option Nat) (cs : List Nat) (k : Nat) : Option Int64 := (z_obj V r cs).bind fun o => match o.2.2[k]? with
  | some (.long v) => some v
  | _ => none
def zgR (V : zV) (r : Option Nat) (cs : List Nat) (k : Nat) : Option (Option Nat) := (z_obj V r cs).bind fun o => match o.2.2[k]? with
  | some (.ref v) => some (some v)
  | some .null => some none
  | _ => none
def zpf (V : zV) (r : Option Nat) (cs : List Nat) (k : Nat) (v : Value) : Option zV := (z_obj V r cs).bind fun o => if k < o.2.2.length then some (z_up V o.1 (.inr (o.2.1, o.2.2.set k v))) else none
def zpI (V : zV) (r : Option Nat) (cs : List Nat) (k : Nat) (v : Int32) : Option zV := zpf V r cs k (.int v)
def zpZ (V : zV) (r : Option Nat) (cs : List Nat) (k : Nat) (v : Int32) : Option zV := if v = 0 ∨ v = 1 then zpf V r cs k (.int v) else none
def zpL (V : zV) (r : Option Nat) (cs : List Nat) (k : Nat) (v : Int64) : Option zV := zpf V r cs k (.long v)
def zpR (V : zV) (r : Option Nat) (cs : List Nat) (k : Nat) (v : Option Nat) : Option zV := zpf V r cs k (va_rf v)
def zalen (V : zV) (r : Option Nat) (t : Nat) : Option Int32 := (z_arr V r t).bind fun q => some (Int32.ofNat q.2.1)
def zaI (V : zV) (r : Option Nat) (t : Nat) (i : Int32) : Option Int32 := (z_arr V r t).bind fun q => match q.2.2 with
  | .inl f => if i < 0 ∨ q.2.1 ≤ i.toNatClampNeg then none else some (f i.toNatClampNeg)
  | _ => none
def zaL (V : zV) (r : Option Nat) (t : Nat) (i : Int32) : Option Int64 := (z_arr V r t).bind fun q => match q.2.2 with
  | .inr (.inl f) => if i < 0 ∨ q.2.1 ≤ i.toNatClampNeg then none else some (f i.toNatClampNeg)
  | _ => none
def zaR (V : zV) (r : Option Nat) (t : Nat) (i : Int32) : Option (Option Nat) := (z_arr V r t).bind fun q => match q.2.2 with
  | .inr (.inr (.inr (.inr f))) => if i < 0 ∨ q.2.1 ≤ i.toNatClampNeg then none else some (f i.toNatClampNeg)
  | _ => none
def zsI (V : zV) (r : Option Nat) (t : Nat) (i : Int32) (v : Int32) : Option zV := (z_arr V r t).bind fun q => match q.2.2 with
  | .inl f => if i < 0 ∨ q.2.1 ≤ i.toNatClampNeg then none else some (z_up V q.1 (.inl (t, q.2.1, .inl (upd f i.toNatClampNeg v))))
  | _ => none
def zsZ (V : zV) (r : Option Nat) (t : Nat) (i : Int32) (v : Int32) : Option zV := if v = 0 ∨ v = 1 then zsI V r t i v else none
def zsL (V : zV) (r : Option Nat) (t : Nat) (i : Int32) (v : Int64) : Option zV := (z_arr V r t).bind fun q => match q.2.2 with
  | .inr (.inl f) => if i < 0 ∨ q.2.1 ≤ i.toNatClampNeg then none else some (z_up V q.1 (.inl (t, q.2.1, .inr (.inl (vp_updL f i.toNatClampNeg v)))))
  | _ => none
/-- a reference is stored: to an object of one of the classes cs -/
def zsR (V : zV) (r : Option Nat) (t : Nat) (cs : List Nat) (i : Int32) (v : Option Nat) : Option zV := (z_obj V v cs).bind fun _ => (z_arr V r t).bind fun q => match q.2.2 with
  | .inr (.inr (.inr (.inr f))) => if i < 0 ∨ q.2.1 ≤ i.toNatClampNeg then none else some (z_up V q.1 (.inl (t, q.2.1, .inr (.inr (.inr (.inr (va_up f i.toNatClampNeg v)))))))
  | _ => none
theorem z_obj_some {V : zV} {r : Option Nat} {cs : List Nat} {o : Nat × Nat × List Value} (h : z_obj V r cs = some o) : r = some o.1 ∧ V o.1 = some (.inr o.2) ∧ cs.contains o.2.1 = true := by
  unfold z_obj at h
  cases r with
  | none => cases h
  | some a =>
    simp only [Option.bind_some] at h
    cases hv : V a with
    | none => rw [hv] at h; cases h
    | some x =>
      rw [hv] at h
      simp only [Option.bind_some] at h
      cases x with
      | inl q => cases h
      | inr q =>
        simp only at h
        by_cases hc : cs.contains q.1 = true
        · rw [if_pos hc] at h
          cases h
          exact ⟨rfl, hv, hc⟩
        · rw [if_neg hc] at h
          cases h
theorem z_arr_some {V : zV} {r : Option Nat} {t : Nat} {q : Nat × vp_A} (h : z_arr V r t = some q) : r = some q.1 ∧ V q.1 = some (.inl (t, q.2)) := by
  unfold z_arr at h
  cases r with
  | none => cases h
  | some a =>
    simp only [Option.bind_some] at h
    cases hv : V a with
    | none => rw [hv] at h; cases h
    | some x =>
      rw [hv] at h
      simp only [Option.bind_some] at h
      cases x with
      | inr q => cases h
      | inl u =>
        simp only at h
        by_cases hc : u.1 = t
        · rw [if_pos hc] at h
          cases h
          exact ⟨rfl, by rw [hv, ← hc]⟩
        · rw [if_neg hc] at h
          cases h
/-- a field of a pool: the word that links it, the class's words; all of them words of the tables -/
def z_fld (own : String) (idx ci k : Nat) : Prop := ∃ (C : String) (T : u_T) (N : Nat) (ref : String), zcl[ci]? = some (C, T, N) ∧ k < N ∧ (∀ w ∈ u_ws C T N, w ∈ zTs) ∧ Cond.fieldLink own idx ref (T k).2.1 (T k).2.2.1 ∈ zTs ∧ (ref = (T k).1 ∨ Cond.sameField ref (T k).1 (T k).2.1 (T k).2.2.1 ∈ zTs)
/-- what writing it needs: not final; the types of the class's fields; names apart -/
def z_wrt (ci k : Nat) (fin : Bool) (own : String) (ty : FieldType) : Prop := ∃ (C : String) (T : u_T) (N : Nat) (ty0 : Nat → FieldType), zcl[ci]? = some (C, T, N) ∧ (T k).2.2.2 = fin ∧ (fin = true → (T k).1 = own) ∧ parseFieldDescriptor (T k).2.2.1 = some ty ∧ (∀ k, k < N → parseFieldDescriptor (T k).2.2.1 = some (ty0 k)) ∧ (∀ a, a < N → ∀ b, b < N → a ≠ b → (T a).2.1 ≠ (T b).2.1)
section ZG
variable {x : zX} {cc : ByteArray} {own nm : String} {nL F L : Nat} {ret : Option FieldType} {cells slots : Nat} {w : zR} {V : zV} {n pc : Nat} {lv lv' : List (Nat × Value)} {st : List Value}
theorem z_getV (C : zC x cc own nm nL F L ret) {a ci k idx : Nat} {fs : List Value} {v : Value} (hV : V a = some (.inr (ci, fs))) (hf : z_fld own idx ci k) (hv : fs[k]? = some v) (d : decode cc pc = .ok (.getfield idx, 3)) (k9 : zZ x nL cells slots w V n (pc + 3) lv (v :: st)) : zZ x nL cells slots w V n pc lv (.ref a :: st) := by
  obtain ⟨p, l, e, R, s, m, args, below, meth, c, D, dA, V0, n0, mc, ms⟩ := x
  obtain ⟨hx, hb, hml, hown, hts, hK, -⟩ := C
  obtain ⟨C1, T, N, ref, hc, hk, hin, hl, hsm⟩ := hf
  intro H locs ls h hls
  exact va_get (D := D) (ci := ci) hx hb hts hin hown hK.1 (h.2.2.1.one hV) 0 rfl hc k hk (hts _ hl) (fun y hy => by
    rcases hsm with rfl | hsm
    · exact hy
    · exact u_same (hts _ hsm) y hy) hv d (k9 H locs ls h hls)
theorem z_getI (C : zC x cc own nm nL F L ret) {r : Option Nat} {cs : List Nat} {k idx : Nat} (hf : ∀ ci ∈ cs, z_fld own idx ci k) (d : decode cc pc = .ok (.getfield idx, 3)) {K : Int32 → Option zR} (h : (zgI V r cs k).bind K = some w) (k9 : ∀ v, K v = some w → zZ x nL cells slots w V n (pc + 3) lv (.int v :: st)) : zZ x nL cells slots w V n pc lv (va_rf r :: st) := by
  unfold zgI at h
  cases ho : z_obj V r cs with
  | none => rw [ho] at h; cases h
  | some o =>
    rw [ho] at h
    obtain ⟨rfl, h2, h3⟩ := z_obj_some ho
    simp only [Option.bind_some] at h
    cases hk : o.2.2[k]? with
    | none => rw [hk] at h; cases h
    | some v =>
      rw [hk] at h
      cases v with
      | int v => exact z_getV C (ci := o.2.1) (fs := o.2.2) h2 (hf _ (by simpa using h3)) hk d (k9 v h)
      | _ => cases h
theorem z_getL (C : zC x cc own nm nL F L ret) {r : Option Nat} {cs : List Nat} {k idx : Nat} (hf : ∀ ci ∈ cs, z_fld own idx ci k) (d : decode cc pc = .ok (.getfield idx, 3)) {K : Int64 → Option zR} (h : (zgL V r cs k).bind K = some w) (k9 : ∀ v, K v = some w → zZ x nL cells slots w V n (pc + 3) lv (.long v :: st)) : zZ x nL cells slots w V n pc lv (va_rf r :: st) := by
  unfold zgL at h
  cases ho : z_obj V r cs with
  | none => rw [ho] at h; cases h
  | some o =>
    rw [ho] at h
    obtain ⟨rfl, h2, h3⟩ := z_obj_some ho
    simp only [Option.bind_some] at h
    cases hk : o.2.2[k]? with
    | none => rw [hk] at h; cases h
    | some v =>
      rw [hk] at h
      cases v with
      | long v => exact z_getV C (ci := o.2.1) (fs := o.2.2) h2 (hf _ (by simpa using h3)) hk d (k9 v h)
      | _ => cases h
theorem z_getR (C : zC x cc own nm nL F L ret) {r : Option Nat} {cs : List Nat} {k idx : Nat} (hf : ∀ ci ∈ cs, z_fld own idx ci k) (d : decode cc pc = .ok (.getfield idx, 3)) {K : Option Nat → Option zR} (h : (zgR V r cs k).bind K = some w) (k9 : ∀ v, K v = some w → zZ x nL cells slots w V n (pc + 3) lv (va_rf v :: st)) : zZ x nL cells slots w V n pc lv (va_rf r :: st) := by
  unfold zgR at h
  cases ho : z_obj V r cs with
  | none => rw [ho] at h; cases h
  | some o =>
    rw [ho] at h
    obtain ⟨rfl, h2, h3⟩ := z_obj_some ho
    simp only [Option.bind_some] at h
    cases hk : o.2.2[k]? with
    | none => rw [hk] at h; cases h
    | some v =>
      rw [hk] at h
      cases v with
      | ref v => exact z_getV C (ci := o.2.1) (fs := o.2.2) h2 (hf _ (by simpa using h3)) hk d (k9 (some v) h)
      | null => exact z_getV C (ci := o.2.1) (fs := o.2.2) h2 (hf _ (by simpa using h3)) hk d (k9 none h)
      | _ => cases h
/-- putfield: v fits the field's type -/
theorem z_putV (C : zC x cc own nm nL F L ret) {r : Option Nat} {cs : List Nat} {k idx : Nat} {v : Value} {ty : FieldType} {fin : Bool} (hf : ∀ ci ∈ cs, z_fld own idx ci k ∧ z_wrt ci k fin own ty) (hfin : fin = true → nm = "<init>") (hn : narrow ty v = v) (hfit : fits ty v = true) (d : decode cc pc = .ok (.putfield idx, 3)) {K : zV → Option zR} (h : (zpf V r cs k v).bind K = some w) (k9 : ∀ V', K V' = some w → zZ x nL cells slots w V' n (pc + 3) lv st) : zZ x nL cells slots w V n pc lv (v :: va_rf r :: st) := by
  unfold zpf at h
  cases ho : z_obj V r cs with
  | none => rw [ho] at h; cases h
  | some o =>
    rw [ho] at h
    obtain ⟨rfl, h2, h3⟩ := z_obj_some ho
    simp only [Option.bind_some] at h
    by_cases hlen : k < o.2.2.length
    · rw [if_pos hlen] at h
      simp only [Option.bind_some] at h
      obtain ⟨a, ci, fs⟩ := o
      dsimp only at h h2 h3 hlen
      obtain ⟨⟨C1, T, N, ref, hc, hk, hin, hl, hsm⟩, ⟨C2, T2, N2, ty0, hc2, g1, g2, g3, g4, g5⟩⟩ := hf ci (by simpa using h3)
      cases hc.symm.trans hc2
      have k8 := k9 _ h
      obtain ⟨p, l, e, R, s, m, args, below, meth, c, D, dA, V0, n0, mc, ms⟩ := x
      obtain ⟨hx, hb, hml, hown, hts, hK, -, -, -, hnm, -⟩ := C
      intro H locs ls hH hls
      have hsame : ∀ y, s.fieldFound? (T k).1 (T k).2.1 (T k).2.2.1 = some y → s.fieldFound? ref (T k).2.1 (T k).2.2.1 = some y := fun y hy => by
        rcases hsm with rfl | hsm
        · exact hy
        · exact u_same (hts _ hsm) y hy
      have hap := va_apart (own := own) hts hin ty0 g4 g5 hK.1 hc
      obtain ⟨r9, h1, cell, q1, q2, q3, q4⟩ := hH.2.2.1 a _ h2
      have hr : r9 = (C1, T, N) := Option.some.inj (h1.symm.trans hc)
      subst hr
      obtain ⟨hS, hfc, kC, hkC, hkind⟩ := hK.1.1 ci _ hc
      obtain ⟨cf, kf, fi, f, hi, hsl⟩ := hS k hk
      have hlay := hts _ (hin _ (u_in_lay hk))
      unfold u_lay at hlay
      have hst := (u_facts hfc hkC (u_lays hts hin hk) hi).1
      cases fin with
      | false =>
        rw [if_neg (by rw [g1]; decide)] at hlay
        have h6 := u_store hfc hkC hkind hlay hi g3 hn hfit
        refine W.putK hx hb (f := f) ⟨hown, hts _ hl, ⟨_, _, _, hsame _ hi⟩, hst⟩ (by rw [q2]; exact h6) q1 q3 (by rw [hsl]; exact k2_hasslot (q4 k hk)) rfl rfl d fun H' e1 e2 e3 => ?_
        rw [hsl] at e1 ⊢
        exact k8 H' _ ls (hH.put h2 (x := .inr (ci, fs.set k v)) ⟨_, hc, t_OB.to (V := updV (vp_V fs) k v) ⟨_, e1, q2, q3, t_set q4 hap hk v⟩ (fun j _ => vp_updV_set hlen v j)⟩ e2 e3) hls
      | true =>
        rw [if_pos g1] at hlay
        have hcf : m.cls = cf := by
          obtain ⟨_, _, c', _, _, _, -, -, hf', -, -, -, hown2, -⟩ := Cond.laysFinal_spec hlay
          have e1 : c' = cf := by have := hi.symm.trans hf'; simp at this; exact this.1.symm
          rw [g2 rfl] at hown2
          rw [← e1]; exact Option.some.inj (hown.symm.trans hown2)
        have h6 := u_fits hfc hkC hkind (Or.inr hlay) hi g3 hn hfit
        refine W.putFinK hx hb hown (hts _ hl) (hsame _ hi) hst hcf (hnm.trans (hfin rfl)) (by rw [q2]; exact h6) q1 q3 (by rw [hsl]; exact k2_hasslot (q4 k hk)) rfl rfl d fun H' e1 e2 e3 => ?_
        rw [hsl] at e1 ⊢
        exact k8 H' _ ls (hH.put h2 (x := .inr (ci, fs.set k v)) ⟨_, hc, t_OB.to (V := updV (vp_V fs) k v) ⟨_, e1, q2, q3, t_set q4 hap hk v⟩ (fun j _ => vp_updV_set hlen v j)⟩ e2 e3) hls
    · rw [if_neg hlen] at h; cases h
end ZG
section ZA
variable {x : zX} {cc : ByteArray} {own nm : String} {nL F L : Nat} {ret : Option FieldType} {cells slots : Nat} {w : zR} {V : zV} {n pc : Nat} {lv lv' : List (Nat × Value)} {st : List Value}
theorem z_alen (C : zC x cc own nm nL F L ret) {r : Option Nat} {t : Nat} {ty : FieldType} (ht : ztl[t]? = some ty) (d : decode cc pc = .ok (.arraylength, 1)) {K : Int32 → Option zR} (h : (zalen V r t).bind K = some w) (k9 : ∀ v, K v = some w → zZ x nL cells slots w V n (pc + 1) lv (.int v :: st)) : zZ x nL cells slots w V n pc lv (va_rf r :: st) := by
  unfold zalen at h
  cases ho : z_arr V r t with
  | none => rw [ho] at h; cases h
  | some q =>
    rw [ho] at h
    obtain ⟨rfl, h2⟩ := z_arr_some ho
    simp only [Option.bind_some] at h
    have k8 := k9 _ h
    obtain ⟨p, l, e, R, s, m, args, below, meth, c, D, dA, V0, n0, mc, ms⟩ := x
    exact fun H locs ls hH hls => va_alen C.1 C.2.1 (C.2.2.2.2.2.1.arr ht) (hH.2.2.1.one h2) 0 0 rfl rfl rfl d (k8 H locs ls hH hls)
theorem z_iald (C : zC x cc own nm nL F L ret) {r : Option Nat} {t : Nat} {i : Int32} (ht : ztl[t]? = some .int) (d : decode cc pc = .ok (.iaload, 1)) {K : Int32 → Option zR} (h : (zaI V r t i).bind K = some w) (k9 : ∀ v, K v = some w → zZ x nL cells slots w V n (pc + 1) lv (.int v :: st)) : zZ x nL cells slots w V n pc lv (.int i :: va_rf r :: st) := by
  unfold zaI at h
  cases ho : z_arr V r t with
  | none => rw [ho] at h; cases h
  | some q =>
    rw [ho] at h
    obtain ⟨rfl, h2⟩ := z_arr_some ho
    simp only [Option.bind_some] at h
    obtain ⟨a, N, u⟩ := q
    dsimp only at h h2
    split at h
    · rename_i f
      by_cases hin : i < 0 ∨ N ≤ i.toNatClampNeg
      · rw [if_pos hin] at h; cases h
      · rw [if_neg hin] at h
        have k8 := k9 _ h
        obtain ⟨p, l, e, R, s, m, args, below, meth, c, D, dA, V0, n0, mc, ms⟩ := x
        exact fun H locs ls hH hls => va_iald C.1 C.2.1 (C.2.2.2.2.2.1.arr ht) (hH.2.2.1.one h2) 0 0 rfl rfl hin d (k8 H locs ls hH hls)
    · cases h
theorem z_zald (C : zC x cc own nm nL F L ret) {r : Option Nat} {t : Nat} {i : Int32} (ht : ztl[t]? = some .boolean) (d : decode cc pc = .ok (.baload, 1)) {K : Int32 → Option zR} (h : (zaI V r t i).bind K = some w) (k9 : ∀ v, K v = some w → zZ x nL cells slots w V n (pc + 1) lv (.int v :: st)) : zZ x nL cells slots w V n pc lv (.int i :: va_rf r :: st) := by
  unfold zaI at h
  cases ho : z_arr V r t with
  | none => rw [ho] at h; cases h
  | some q =>
    rw [ho] at h
    obtain ⟨rfl, h2⟩ := z_arr_some ho
    simp only [Option.bind_some] at h
    obtain ⟨a, N, u⟩ := q
    dsimp only at h h2
    split at h
    · rename_i f
      by_cases hin : i < 0 ∨ N ≤ i.toNatClampNeg
      · rw [if_pos hin] at h; cases h
      · rw [if_neg hin] at h
        have k8 := k9 _ h
        obtain ⟨p, l, e, R, s, m, args, below, meth, c, D, dA, V0, n0, mc, ms⟩ := x
        exact fun H locs ls hH hls => va_zald C.1 C.2.1 (C.2.2.2.2.2.1.arr ht) (hH.2.2.1.one h2) 0 0 rfl rfl hin d (k8 H locs ls hH hls)
    · cases h
theorem z_lald (C : zC x cc own nm nL F L ret) {r : Option Nat} {t : Nat} {i : Int32} (ht : ztl[t]? = some .long) (d : decode cc pc = .ok (.laload, 1)) {K : Int64 → Option zR} (h : (zaL V r t i).bind K = some w) (k9 : ∀ v, K v = some w → zZ x nL cells slots w V n (pc + 1) lv (.long v :: st)) : zZ x nL cells slots w V n pc lv (.int i :: va_rf r :: st) := by
  unfold zaL at h
  cases ho : z_arr V r t with
  | none => rw [ho] at h; cases h
  | some q =>
    rw [ho] at h
    obtain ⟨rfl, h2⟩ := z_arr_some ho
    simp only [Option.bind_some] at h
    obtain ⟨a, N, u⟩ := q
    dsimp only at h h2
    split at h
    · rename_i f
      by_cases hin : i < 0 ∨ N ≤ i.toNatClampNeg
      · rw [if_pos hin] at h; cases h
      · rw [if_neg hin] at h
        have k8 := k9 _ h
        obtain ⟨p, l, e, R, s, m, args, below, meth, c, D, dA, V0, n0, mc, ms⟩ := x
        exact fun H locs ls hH hls => va_lald C.1 C.2.1 (C.2.2.2.2.2.1.arr ht) (hH.2.2.1.one h2) 0 0 rfl rfl hin d (k8 H locs ls hH hls)
    · cases h
theorem z_aald (C : zC x cc own nm nL F L ret) {r : Option Nat} {t : Nat} {i : Int32} {E : String} (ht : ztl[t]? = some (.object E)) (d : decode cc pc = .ok (.aaload, 1)) {K : Option Nat → Option zR} (h : (zaR V r t i).bind K = some w) (k9 : ∀ v, K v = some w → zZ x nL cells slots w V n (pc + 1) lv (va_rf v :: st)) : zZ x nL cells slots w V n pc lv (.int i :: va_rf r :: st) := by
  unfold zaR at h
  cases ho : z_arr V r t with
  | none => rw [ho] at h; cases h
  | some q =>
    rw [ho] at h
    obtain ⟨rfl, h2⟩ := z_arr_some ho
    simp only [Option.bind_some] at h
    obtain ⟨a, N, u⟩ := q
    dsimp only at h h2
    split at h
    · rename_i f
      by_cases hin : i < 0 ∨ N ≤ i.toNatClampNeg
      · rw [if_pos hin] at h; cases h
      · rw [if_neg hin] at h
        have k8 := k9 _ h
        obtain ⟨p, l, e, R, s, m, args, below, meth, c, D, dA, V0, n0, mc, ms⟩ := x
        exact fun H locs ls hH hls => va_aldq C.1 C.2.1 (C.2.2.2.2.2.1.arr ht) (hH.2.2.1.one h2) 0 0 rfl rfl hin d (k8 H locs ls hH hls)
    · cases h
theorem z_iast (C : zC x cc own nm nL F L ret) {r : Option Nat} {t : Nat} {i : Int32} {v : Int32} (ht : ztl[t]? = some .int) (d : decode cc pc = .ok (.iastore, 1)) {K : zV → Option zR} (h : (zsI V r t i v).bind K = some w) (k9 : ∀ V', K V' = some w → zZ x nL cells slots w V' n (pc + 1) lv st) : zZ x nL cells slots w V n pc lv (.int v :: .int i :: va_rf r :: st) := by
  unfold zsI at h
  cases ho : z_arr V r t with
  | none => rw [ho] at h; cases h
  | some q =>
    rw [ho] at h
    obtain ⟨rfl, h2⟩ := z_arr_some ho
    simp only [Option.bind_some] at h
    obtain ⟨a, N, u⟩ := q
    dsimp only at h h2
    split at h
    · rename_i f
      by_cases hin : i < 0 ∨ N ≤ i.toNatClampNeg
      · rw [if_pos hin] at h; cases h
      · rw [if_neg hin] at h
        have k8 := k9 _ h
        obtain ⟨p, l, e, R, s, m, args, below, meth, c, D, dA, V0, n0, mc, ms⟩ := x
        intro H locs ls hH hls
        refine W.iast C.1 C.2.1 (hH.2.2.1 a _ h2) (((C.2.2.2.2.2.1.arr ht).2 0 _ rfl).1 N _) (fun q => by cases q) (by show ¬ (i < 0 ∨ (arrV _ _ _).slots.size ≤ _); rw [arrV_size]; exact hin) rfl rfl d fun H1 e1 z oq => ?_
        refine k8 H1 _ ls (hH.put h2 (x := .inl (t, N, .inl (upd f i.toNatClampNeg v))) ?_ z oq) hls
        show H1[a]? = some (vp_cell _ _)
        rw [e1]
        show some ((vp_cell _ _).setSlot _ _) = _
        rw [vp_cell_i, vp_cell_i, arrV_store]
        congr 2
        funext q
        by_cases hq : q = i.toNatClampNeg
        · subst hq
          simp [updV, upd]
        · simp [updV, upd, hq]
    · cases h
theorem z_zast0 (C : zC x cc own nm nL F L ret) {r : Option Nat} {t : Nat} {i : Int32} {v : Int32} (ht : ztl[t]? = some .boolean) (hnar : narrow .boolean (.int v) = .int v) (d : decode cc pc = .ok (.bastore, 1)) {K : zV → Option zR} (h : (zsI V r t i v).bind K = some w) (k9 : ∀ V', K V' = some w → zZ x nL cells slots w V' n (pc + 1) lv st) : zZ x nL cells slots w V n pc lv (.int v :: .int i :: va_rf r :: st) := by
  unfold zsI at h
  cases ho : z_arr V r t with
  | none => rw [ho] at h; cases h
  | some q =>
    rw [ho] at h
    obtain ⟨rfl, h2⟩ := z_arr_some ho
    simp only [Option.bind_some] at h
    obtain ⟨a, N, u⟩ := q
    dsimp only at h h2
    split at h
    · rename_i f
      by_cases hin : i < 0 ∨ N ≤ i.toNatClampNeg
      · rw [if_pos hin] at h; cases h
      · rw [if_neg hin] at h
        have k8 := k9 _ h
        obtain ⟨p, l, e, R, s, m, args, below, meth, c, D, dA, V0, n0, mc, ms⟩ := x
        intro H locs ls hH hls
        refine W.zast C.1 C.2.1 (hH.2.2.1 a _ h2) (((C.2.2.2.2.2.1.arr ht).2 0 _ rfl).1 N _) (fun q => by cases q) (by show ¬ (i < 0 ∨ (arrV _ _ _).slots.size ≤ _); rw [arrV_size]; exact hin) rfl rfl d fun H1 e1 z oq => ?_
        refine k8 H1 _ ls (hH.put h2 (x := .inl (t, N, .inl (upd f i.toNatClampNeg v))) ?_ z oq) hls
        show H1[a]? = some (vp_cell _ _)
        rw [e1]
        show some ((vp_cell _ _).setSlot _ _) = _
        rw [vp_cell_i, vp_cell_i, arrV_store]
        congr 2
        funext q
        by_cases hq : q = i.toNatClampNeg
        · subst hq
          simp [updV, upd, hnar]
        · simp [updV, upd, hnar, hq]
    · cases h
theorem z_zast (C : zC x cc own nm nL F L ret) {r : Option Nat} {t : Nat} {i : Int32} {v : Int32} (ht : ztl[t]? = some .boolean) (d : decode cc pc = .ok (.bastore, 1)) {K : zV → Option zR} (h : (zsZ V r t i v).bind K = some w) (k9 : ∀ V', K V' = some w → zZ x nL cells slots w V' n (pc + 1) lv st) : zZ x nL cells slots w V n pc lv (.int v :: .int i :: va_rf r :: st) := by
  unfold zsZ at h
  by_cases hv01 : v = 0 ∨ v = 1
  · rw [if_pos hv01] at h
    exact z_zast0 C ht (by rcases hv01 with rfl | rfl <;> rfl) d h k9
  · rw [if_neg hv01] at h; cases h
theorem z_last (C : zC x cc own nm nL F L ret) {r : Option Nat} {t : Nat} {i : Int32} {v : Int64} (ht : ztl[t]? = some .long) (d : decode cc pc = .ok (.lastore, 1)) {K : zV → Option zR} (h : (zsL V r t i v).bind K = some w) (k9 : ∀ V', K V' = some w → zZ x nL cells slots w V' n (pc + 1) lv st) : zZ x nL cells slots w V n pc lv (.long v :: .int i :: va_rf r :: st) := by
  unfold zsL at h
  cases ho : z_arr V r t with
  | none => rw [ho] at h; cases h
  | some q =>
    rw [ho] at h
    obtain ⟨rfl, h2⟩ := z_arr_some ho
    simp only [Option.bind_some] at h
    obtain ⟨a, N, u⟩ := q
    dsimp only at h h2
    split at h
    · rename_i f
      by_cases hin : i < 0 ∨ N ≤ i.toNatClampNeg
      · rw [if_pos hin] at h; cases h
      · rw [if_neg hin] at h
        have k8 := k9 _ h
        obtain ⟨p, l, e, R, s, m, args, below, meth, c, D, dA, V0, n0, mc, ms⟩ := x
        intro H locs ls hH hls
        refine W.last C.1 C.2.1 (hH.2.2.1 a _ h2) (((C.2.2.2.2.2.1.arr ht).2 0 _ rfl).1 N _) (fun q => by cases q) (by show ¬ (i < 0 ∨ (arrV _ _ _).slots.size ≤ _); rw [arrV_size]; exact hin) rfl rfl d fun H1 e1 z oq => ?_
        refine k8 H1 _ ls (hH.put h2 (x := .inl (t, N, .inr (.inl (vp_updL f i.toNatClampNeg v)))) ?_ z oq) hls
        show H1[a]? = some (vp_cell _ _)
        rw [e1]
        show some ((vp_cell _ _).setSlot _ _) = _
        rw [vp_cell_l, vp_cell_l, arrV_store]
        congr 2
        funext q
        by_cases hq : q = i.toNatClampNeg
        · subst hq
          simp [updV, vp_updL]
        · simp [updV, vp_updL, hq]
    · cases h
theorem z_aast (C : zC x cc own nm nL F L ret) {r v : Option Nat} {t : Nat} {cs : List Nat} {i : Int32} {E : String} (ht : ztl[t]? = some (.object E)) (hE : ∀ ci ∈ cs, ∃ q, zcl[ci]? = some q ∧ (q.1 = E ∨ (q.1, E) ∈ zcast)) (d : decode cc pc = .ok (.aastore, 1)) {K : zV → Option zR} (h : (zsR V r t cs i v).bind K = some w) (k9 : ∀ V', K V' = some w → zZ x nL cells slots w V' n (pc + 1) lv st) : zZ x nL cells slots w V n pc lv (va_rf v :: .int i :: va_rf r :: st) := by
  unfold zsR at h
  cases ho2 : z_obj V v cs with
  | none => rw [ho2] at h; cases h
  | some o =>
    rw [ho2] at h
    obtain ⟨rfl, g2, g3⟩ := z_obj_some ho2
    simp only [Option.bind_some] at h
    cases ho : z_arr V r t with
    | none => rw [ho] at h; cases h
    | some q =>
      rw [ho] at h
      obtain ⟨rfl, h2⟩ := z_arr_some ho
      simp only [Option.bind_some] at h
      obtain ⟨a, N, u⟩ := q
      dsimp only at h h2
      split at h
      · rename_i f
        by_cases hin : i < 0 ∨ N ≤ i.toNatClampNeg
        · rw [if_pos hin] at h; cases h
        · rw [if_neg hin] at h
          have k8 := k9 _ h
          obtain ⟨b, ci, fs⟩ := o
          dsimp only at g2 g3 k8 ⊢
          obtain ⟨⟨C1, T, N1⟩, hc, hE9⟩ := hE ci (by simpa using g3)
          dsimp only at hE9
          obtain ⟨p, l, e, R, s, m, args, below, meth, c, D, dA, V0, n0, mc, ms⟩ := x
          obtain ⟨hx, hb, hml, hown, hts, hK, -⟩ := C
          intro H locs ls hH hls
          have hlt : i.toNatClampNeg < N := Nat.not_le.mp fun q => hin (Or.inr q)
          have h0 : ¬ i < 0 := fun q => hin (Or.inl q)
          obtain ⟨r9, hr9, cellV, q1, q2, q3, -⟩ := hH.2.2.1 b _ g2
          have hcls := (hK.1.1 ci _ hc).2
          obtain ⟨kA, comp, k1, k2, k3, -⟩ := (hK.2.1 t _ ht).2
          obtain ⟨kE, hkE, -⟩ := Vm.findClass_spec k3
          obtain ⟨kC, hkC, -⟩ := hcls.2
          have hca : s.vm.assignable (D.1 ci) comp = true := by
            rcases hE9 with e9 | e9
            · subst e9
              cases hcls.1.symm.trans k3
              exact va_assign hcls
            · obtain ⟨c0, t1, f1, f2, f3⟩ := Cond.castable_spec (va_Nw.use (A := args) rfl (hK.2.2.2.2.2.2.1 _ e9))
              cases hcls.1.symm.trans f1
              cases k3.symm.trans f2
              exact f3
          refine W.aast hx hb (hH.2.2.1 a _ h2) (fun q h => by cases h) (fun h => by cases h) k1 k2 rfl hkE ⟨h0, by show _ < (arrV _ _ _).slots.size; rw [arrV_size]; exact hlt⟩ q1 (fun q h => by rw [q3] at h; cases h) (by rw [q2]; exact hkC) (by rw [q2]; exact hca) rfl rfl d fun H1 e1 z oq => ?_
          refine k8 H1 _ ls (hH.put h2 (x := .inl (t, N, .inr (.inr (.inr (.inr (va_up f i.toNatClampNeg (some b))))))) ?_ z oq) hls
          show H1[a]? = some (vp_cell _ _)
          rw [e1]
          show some ((vp_cell _ _).setSlot _ _) = _
          rw [vp_cell_q, vp_cell_q, arrV_store]
          congr 2
          funext q
          by_cases hq : q = i.toNatClampNeg
          · subst hq
            simp [updV, va_up, va_rf]
          · simp [updV, va_up, hq]
      · cases h
end ZA
