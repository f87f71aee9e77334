section ZY
variable {x : zX} {cc : ByteArray} {own nm : String} {nL F L MC MS : Nat} {ret : Option FieldType} {cells slots : Nat} {w : zR} {V : zV} {n pc : Nat} {lv lv' : List (Nat × Value)} {st : List Value}
theorem z_nn (z : Int32) (hz : ¬ z < 0) : z.toInt = (z.toNatClampNeg : Int) := by
  have hz0 : (0 : Int) ≤ z.toInt := by
    have := Int32.not_lt.mp hz
    simpa using Int32.le_iff_toInt_le.mp this
  show z.toInt = ((z.toInt.toNat : Nat) : Int)
  omega
theorem z_copyI (C : zC x cc own nm nL F L ret) {r : Option Nat} {t idx : Nat} {sp dp k : Int32} (ht : ztl[t]? = some .int) (g1 : Cond.methodLink own idx arraycopyName ∈ zTs) (g2 : Cond.native arraycopyName ∈ zTs) (g3 : Cond.static arraycopyName ∈ zTs) (g4 : Cond.initialized "java/lang/System" ∈ zTs) (hF : 1 ≤ F) (hL : (st.map fun v => v.category).sum + (nativeFrameWords "java/lang/System" "arraycopy" 5 + 11) ≤ L) (d : decode cc pc = .ok (.invokestatic idx, 3)) {K : zV → Option zR} (h : (zcpI V r t sp dp k).bind K = some w) (k9 : ∀ V', K V' = some w → zZ x nL cells slots w V' n (pc + 3) lv st) : zZ x nL cells slots w V n pc lv (.int k :: .int dp :: va_rf r :: .int sp :: va_rf r :: st) := by
  unfold zcpI at h
  cases ho : z_arr V r t with
  | none => rw [ho] at h; cases h
  | some q =>
    rw [ho] at h
    obtain ⟨rfl, h2⟩ := z_arr_some ho
    simp only [Option.bind_some] at h
    obtain ⟨a, N, u⟩ := q
    dsimp only at h h2
    split at h
    · rename_i f
      by_cases hin : sp < 0 ∨ dp < 0 ∨ k < 0 ∨ N < sp.toNatClampNeg + k.toNatClampNeg ∨ N < dp.toNatClampNeg + k.toNatClampNeg
      · rw [if_pos hin] at h; cases h
      · rw [if_neg hin] at h
        have k8 := k9 _ h
        simp only [not_or] at hin
        obtain ⟨h1, h3, h4, h5, h6⟩ := hin
        have e1 := z_nn sp h1
        have e2 := z_nn dp h3
        have e3 := z_nn k h4
        obtain ⟨p, l, e, R, s, m, args, below, meth, c, D, dA, V0, n0, mc, ms⟩ := x
        obtain ⟨hx, hb, hml, hown, hts, hK, hn0, hlocks, hr, hnm, hout, hl, hR⟩ := C
        intro H locs ls hH hls T hT X
        have hc1 : H[a]? = some (vp_cell (dA t) (N, .inl f)) := hH.2.2.1 a _ h2
        obtain ⟨-, k1, hk1, cm1, hkk1⟩ := (hK.2.1 t _ ht).1 N (fun j => .int (f j))
        obtain ⟨vm', X', step⟩ := X.arraycopy hx hown (hts _ g1) (hts _ g2) (hts _ g3) (hts _ g4) (src := a) (dst := a) (cs := vp_cell (dA t) (N, .inl f)) (cd := vp_cell (dA t) (N, .inl f)) (srcPos := sp) (destPos := dp) (n := k) (by rw [hT]; exact hc1) (by rw [hT]; exact hc1)
          (fun _ h => by cases h) (fun _ h => by cases h) (fun h => by cases h) (fun h => by cases h) hk1 hk1 hkk1 hkk1 (by simp [refKind]) h1 h3 h4
          (by rw [e1, e3]; show ¬ _ > ((arrV (dA t) N (fun j => .int (f j))).slots.size : Int); rw [arrV_size]; omega)
          (by rw [e2, e3]; show ¬ _ > ((arrV (dA t) N (fun j => .int (f j))).slots.size : Int); rw [arrV_size]; omega)
          (fun vm₁ _ i hi => by
            have e : (vp_cell (dA t) (N, .inl f)).slots.getD (sp.toNatClampNeg + i) .null = .int (f (sp.toNatClampNeg + i)) := by
              show (arrV (dA t) N (fun j => .int (f j))).slots.getD _ _ = _
              rw [Array.getD_eq_getD_getElem?, arrV_read _ _ (by omega)]
              rfl
            refine ⟨?_, ?_⟩
            · rw [e]
              rfl
            · rw [e]
              exact trivial)
          (g := F0 m pc ls (.int k :: .int dp :: .ref a :: .int sp :: .ref a :: st)) rfl (by rw [hml]; exact hls.1) (rest := st) rfl (by rw [hb]; exact d) (by rw [hR]; exact hF) (by rw [hR]; show 2 * 0 + _ + _ ≤ L; omega)
        have e9 : copied (vp_cell (dA t) (N, .inl f)) (vp_cell (dA t) (N, .inl f)) sp dp k = vp_cell (dA t) (N, .inl (va_cpy f f sp.toNatClampNeg dp.toNatClampNeg k.toNatClampNeg)) := va_copied (fun z => .int z) (dA t) (dA t) f f (by omega)
        rw [e9] at X' step
        have hlt : a < H.size := (Array.getElem?_eq_some_iff.mp hc1).1
        have hheap : ((T.setVm vm').setCell a (vp_cell (dA t) (N, .inl (va_cpy f f sp.toNatClampNeg dp.toNatClampNeg k.toNatClampNeg)))).heap = H.setIfInBounds a (vp_cell (dA t) (N, .inl (va_cpy f f sp.toNatClampNeg dp.toNatClampNeg k.toNatClampNeg))) := by rw [← hT]; rfl
        have oq : ∀ q : Nat, q ≠ a → (H.setIfInBounds a (vp_cell (dA t) (N, .inl (va_cpy f f sp.toNatClampNeg dp.toNatClampNeg k.toNatClampNeg))))[q]? = H[q]? := fun q hq => by simp [Array.getElem?_setIfInBounds, Ne.symm hq]
        have hz9 := hH.put (k := 0) h2 (x := .inl (t, N, .inl (va_cpy f f sp.toNatClampNeg dp.toNatClampNeg k.toNatClampNeg))) (H1 := H.setIfInBounds a (vp_cell (dA t) (N, .inl (va_cpy f f sp.toNatClampNeg dp.toNatClampNeg k.toNatClampNeg)))) (show (H.setIfInBounds a _)[a]? = some _ by simp [Array.getElem?_setIfInBounds, hlt]) (by simp) oq
        obtain ⟨t9, a1, b1⟩ := k8 _ _ ls ⟨⟨hz9.1.1, hz9.1.2.1, fun q hq => by
          rcases List.mem_append.mp hq with h | h
          · exact hH.1.2.2 q h
          · obtain ⟨z, -, hz⟩ := List.mem_map.mp h
            rw [← hz]
            exact hH.2.2.2 a _ h2⟩, hz9.2⟩ hls _ hheap X'
        exact ⟨t9, step t9 a1, b1⟩
    · cases h
theorem z_copyL (C : zC x cc own nm nL F L ret) {r : Option Nat} {t idx : Nat} {sp dp k : Int32} (ht : ztl[t]? = some .long) (g1 : Cond.methodLink own idx arraycopyName ∈ zTs) (g2 : Cond.native arraycopyName ∈ zTs) (g3 : Cond.static arraycopyName ∈ zTs) (g4 : Cond.initialized "java/lang/System" ∈ zTs) (hF : 1 ≤ F) (hL : (st.map fun v => v.category).sum + (nativeFrameWords "java/lang/System" "arraycopy" 5 + 11) ≤ L) (d : decode cc pc = .ok (.invokestatic idx, 3)) {K : zV → Option zR} (h : (zcpL V r t sp dp k).bind K = some w) (k9 : ∀ V', K V' = some w → zZ x nL cells slots w V' n (pc + 3) lv st) : zZ x nL cells slots w V n pc lv (.int k :: .int dp :: va_rf r :: .int sp :: va_rf r :: st) := by
  unfold zcpL at h
  cases ho : z_arr V r t with
  | none => rw [ho] at h; cases h
  | some q =>
    rw [ho] at h
    obtain ⟨rfl, h2⟩ := z_arr_some ho
    simp only [Option.bind_some] at h
    obtain ⟨a, N, u⟩ := q
    dsimp only at h h2
    split at h
    · rename_i f
      by_cases hin : sp < 0 ∨ dp < 0 ∨ k < 0 ∨ N < sp.toNatClampNeg + k.toNatClampNeg ∨ N < dp.toNatClampNeg + k.toNatClampNeg
      · rw [if_pos hin] at h; cases h
      · rw [if_neg hin] at h
        have k8 := k9 _ h
        simp only [not_or] at hin
        obtain ⟨h1, h3, h4, h5, h6⟩ := hin
        have e1 := z_nn sp h1
        have e2 := z_nn dp h3
        have e3 := z_nn k h4
        obtain ⟨p, l, e, R, s, m, args, below, meth, c, D, dA, V0, n0, mc, ms⟩ := x
        obtain ⟨hx, hb, hml, hown, hts, hK, hn0, hlocks, hr, hnm, hout, hl, hR⟩ := C
        intro H locs ls hH hls T hT X
        have hc1 : H[a]? = some (vp_cell (dA t) (N, .inr (.inl f))) := hH.2.2.1 a _ h2
        obtain ⟨-, k1, hk1, cm1, hkk1⟩ := (hK.2.1 t _ ht).1 N (fun j => .long (f j))
        obtain ⟨vm', X', step⟩ := X.arraycopy hx hown (hts _ g1) (hts _ g2) (hts _ g3) (hts _ g4) (src := a) (dst := a) (cs := vp_cell (dA t) (N, .inr (.inl f))) (cd := vp_cell (dA t) (N, .inr (.inl f))) (srcPos := sp) (destPos := dp) (n := k) (by rw [hT]; exact hc1) (by rw [hT]; exact hc1)
          (fun _ h => by cases h) (fun _ h => by cases h) (fun h => by cases h) (fun h => by cases h) hk1 hk1 hkk1 hkk1 (by simp [refKind]) h1 h3 h4
          (by rw [e1, e3]; show ¬ _ > ((arrV (dA t) N (fun j => .long (f j))).slots.size : Int); rw [arrV_size]; omega)
          (by rw [e2, e3]; show ¬ _ > ((arrV (dA t) N (fun j => .long (f j))).slots.size : Int); rw [arrV_size]; omega)
          (fun vm₁ _ i hi => by
            have e : (vp_cell (dA t) (N, .inr (.inl f))).slots.getD (sp.toNatClampNeg + i) .null = .long (f (sp.toNatClampNeg + i)) := by
              show (arrV (dA t) N (fun j => .long (f j))).slots.getD _ _ = _
              rw [Array.getD_eq_getD_getElem?, arrV_read _ _ (by omega)]
              rfl
            refine ⟨?_, ?_⟩
            · rw [e]
              rfl
            · rw [e]
              exact trivial)
          (g := F0 m pc ls (.int k :: .int dp :: .ref a :: .int sp :: .ref a :: st)) rfl (by rw [hml]; exact hls.1) (rest := st) rfl (by rw [hb]; exact d) (by rw [hR]; exact hF) (by rw [hR]; show 2 * 0 + _ + _ ≤ L; omega)
        have e9 : copied (vp_cell (dA t) (N, .inr (.inl f))) (vp_cell (dA t) (N, .inr (.inl f))) sp dp k = vp_cell (dA t) (N, .inr (.inl (va_cpy f f sp.toNatClampNeg dp.toNatClampNeg k.toNatClampNeg))) := va_copied (fun z => .long z) (dA t) (dA t) f f (by omega)
        rw [e9] at X' step
        have hlt : a < H.size := (Array.getElem?_eq_some_iff.mp hc1).1
        have hheap : ((T.setVm vm').setCell a (vp_cell (dA t) (N, .inr (.inl (va_cpy f f sp.toNatClampNeg dp.toNatClampNeg k.toNatClampNeg))))).heap = H.setIfInBounds a (vp_cell (dA t) (N, .inr (.inl (va_cpy f f sp.toNatClampNeg dp.toNatClampNeg k.toNatClampNeg)))) := by rw [← hT]; rfl
        have oq : ∀ q : Nat, q ≠ a → (H.setIfInBounds a (vp_cell (dA t) (N, .inr (.inl (va_cpy f f sp.toNatClampNeg dp.toNatClampNeg k.toNatClampNeg)))))[q]? = H[q]? := fun q hq => by simp [Array.getElem?_setIfInBounds, Ne.symm hq]
        have hz9 := hH.put (k := 0) h2 (x := .inl (t, N, .inr (.inl (va_cpy f f sp.toNatClampNeg dp.toNatClampNeg k.toNatClampNeg)))) (H1 := H.setIfInBounds a (vp_cell (dA t) (N, .inr (.inl (va_cpy f f sp.toNatClampNeg dp.toNatClampNeg k.toNatClampNeg))))) (show (H.setIfInBounds a _)[a]? = some _ by simp [Array.getElem?_setIfInBounds, hlt]) (by simp) oq
        obtain ⟨t9, a1, b1⟩ := k8 _ _ ls ⟨⟨hz9.1.1, hz9.1.2.1, fun q hq => by
          rcases List.mem_append.mp hq with h | h
          · exact hH.1.2.2 q h
          · obtain ⟨z, -, hz⟩ := List.mem_map.mp h
            rw [← hz]
            exact hH.2.2.2 a _ h2⟩, hz9.2⟩ hls _ hheap X'
        exact ⟨t9, step t9 a1, b1⟩
    · cases h
end ZY
