/-! the helper 'cell': one int of the script -/
theorem dW_cell_0 : decode method_2_code 0 = .ok (.iload_n 1, 1) := by decide +kernel
theorem dW_cell_1 : decode method_2_code 1 = .ok (.aload_n 0, 1) := by decide +kernel
theorem dW_cell_2 : decode method_2_code 2 = .ok (.arraylength, 1) := by decide +kernel
theorem dW_cell_3 : decode method_2_code 3 = .ok (.if_icmp .ge 9, 3) := by decide +kernel
theorem dW_cell_6 : decode method_2_code 6 = .ok (.aload_n 0, 1) := by decide +kernel
theorem dW_cell_7 : decode method_2_code 7 = .ok (.iload_n 1, 1) := by decide +kernel
theorem dW_cell_8 : decode method_2_code 8 = .ok (.iaload, 1) := by decide +kernel
theorem dW_cell_9 : decode method_2_code 9 = .ok (.goto 4, 3) := by decide +kernel
theorem dW_cell_12 : decode method_2_code 12 = .ok (.iconst 0, 1) := by decide +kernel
theorem dW_cell_13 : decode method_2_code 13 = .ok (.ireturn, 1) := by decide +kernel
theorem wW_cell : Cond.code yCell method_2_code 2 (some .int) ∈ zTs := by decide +kernel
theorem csW_93 : zCS "BarrierMarksLaw" 93 yCell 2 := ⟨by decide +kernel, by decide +kernel, by decide +kernel, by decide, by decide, by decide +kernel⟩
def cellv (xs : Nat → Int32) (Ln : Nat) : Int32 := if Ln = 0 then 0 else xs 0
theorem c_cell {l : Launch} {D : va_G} {dA : Nat → ClassId} {V : zV} {n b Ln : Nat} {xs : Nat → Int32} (hLn : Ln < 2 ^ 31) (hl : l.stackTraces = false) : Met l yCell (Cond.code yCell method_2_code 2 (some .int) :: zTs) { frames := 0, cells := 0, slots := 0, locals := 0 } (va_Pc [.ref b, .int 0] (fun U => U.heap.size = n ∧ z_P D dA zcl V U.heap ∧ zK D dA (z_A V n) U ∧ va_X b Ln xs U U.heap ∧ b < U.heap.size ∧ ¬ z_A V n b)) (h_Q D dA V n (fun r V' n' => r = cellv xs Ln ∧ V' = V ∧ n' = n)) 0 0 (z_A V n) := by
  refine Met.ofW (cc := method_2_code) (maxL := 2) (ret := some .int) (by decide) rfl ?_
  intro p e s m args below meth c s₁ B hml hv
  obtain ⟨rfl, hsz, hP, hK, hX, hbl, hbA⟩ := hv
  have hts := atoms_spec (ws := Cond.code yCell method_2_code 2 (some .int) :: zTs) B.pre
  have C : gC (p, l, e, { frames := 0, cells := 0, slots := 0, locals := 0 }, s, m, ([.ref b, .int 0] : List Value).toArray, below, meth, c, D, dA) (z_A V n) method_2_code "BarrierMarksLaw" 2 0 0 0 0 := ⟨B.exec, B.bytes, hml, findClass_of_methodNamed B.named, fun w hw => hts w (List.mem_cons_of_mem _ hw), hK, fun q hq => Or.inr (by omega), B.notSynchronized, hl, rfl⟩
  have S : gS (p, l, e, { frames := 0, cells := 0, slots := 0, locals := 0 }, s, m, ([.ref b, .int 0] : List Value).toArray, below, meth, c, D, dA) (z_A V n) b Ln xs := ⟨hX, hbl, hbA⟩
  have key : gZ (p, l, e, { frames := 0, cells := 0, slots := 0, locals := 0 }, s, m, ([.ref b, .int 0] : List Value).toArray, below, meth, c, D, dA) (z_A V n) (MQ below (h_Q D dA V n (fun r V' n' => r = cellv xs Ln ∧ V' = V ∧ n' = n)) ([.ref b, .int 0] : List Value).toArray s 0 0 (z_A V n)) 2 0 0 V n 0 [(0, .ref b), (1, .int 0)] [] := by
    have hret : ∀ v : Int32, v = cellv xs Ln → gZ (p, l, e, { frames := 0, cells := 0, slots := 0, locals := 0 }, s, m, ([.ref b, .int 0] : List Value).toArray, below, meth, c, D, dA) (z_A V n) (MQ below (h_Q D dA V n (fun r V' n' => r = cellv xs Ln ∧ V' = V ∧ n' = n)) ([.ref b, .int 0] : List Value).toArray s 0 0 (z_A V n)) 2 0 0 V n 13 [(0, .ref b), (1, .int 0)] [.int v] := by
      intro v hv H locs ls hH hls
      exact W.iret C.1 C.2.1 B.returns (fun t ht hW => ⟨v, V, n, rfl, ⟨hv, rfl, rfl⟩, by rw [ht]; exact hH.2.1, z_WH hH ht⟩) hH.1.2.2 dW_cell_13
    refine g_iload_n C 1 dW_cell_0 rfl rfl ?_
    refine g_aload_n C 0 dW_cell_1 rfl rfl ?_
    refine g_slen C S dW_cell_2 ?_
    intro H locs ls hH hls
    refine lv_icmp_ge (tgt := 12) C.1 C.2.1 dW_cell_3 (by decide) (fun hge => ?_) (fun hlt => ?_)
    · refine g_iconst (v := 0) C dW_cell_12 (by decide) (hret 0 ?_) H locs ls hH hls
      have : Ln = 0 := by
        rcases Nat.eq_zero_or_pos Ln with h | h
        · exact h
        · exact absurd hge (nI_nle h hLn)
      unfold cellv; rw [if_pos this]
    · have hpos : 0 < Ln := by
        rcases Nat.eq_zero_or_pos Ln with h | h
        · subst h; exact absurd (by decide) hlt
        · exact h
      have hg : gZ (p, l, e, { frames := 0, cells := 0, slots := 0, locals := 0 }, s, m, ([.ref b, .int 0] : List Value).toArray, below, meth, c, D, dA) (z_A V n) (MQ below (h_Q D dA V n (fun r V' n' => r = cellv xs Ln ∧ V' = V ∧ n' = n)) ([.ref b, .int 0] : List Value).toArray s 0 0 (z_A V n)) 2 0 0 V n 6 [(0, .ref b), (1, .int 0)] [] := by
        refine g_aload_n C 0 dW_cell_6 rfl rfl ?_
        refine g_iload_n C 1 dW_cell_7 rfl rfl ?_
        refine g_sld C S (show vp_in (0 : Int32) Ln from vp_in_nI (n := 0) hpos hLn) dW_cell_8 ?_
        refine g_goto C 13 dW_cell_9 (by decide) ?_
        exact hret _ (by unfold cellv; rw [if_neg (by omega)]; rfl)
      exact hg H locs ls hH hls
  have hl0 := lv_entry ([.ref b, .int 0] : List Value) (n := 2) (Nat.le_of_ble_eq_true rfl)
  rw [lg_entry_eq]
  exact key s.heap [] _ ⟨va_S.rf, hsz, hP, fun a y ha => Or.inl ⟨y, ha⟩⟩ hl0
section GC
variable {x : gX} {A : Nat → Prop} {Q : State → Prop} {cc : ByteArray} {nL F L MC MS : Nat} {cells slots : Nat} {V : zV} {n pc b Ln : Nat} {xs : Nat → Int32} {lv : List (Nat × Value)} {rest : List Value}
theorem g_callCell (C : gC x A cc "BarrierMarksLaw" nL F L MC MS) (S : gS x A b Ln xs) (hLn : Ln < 2 ^ 31) (hF : 1 ≤ F) (hL : 21 ≤ L) (hrm : (rest.map fun v => v.category).sum ≤ 8) (d : decode cc pc = .ok (.invokestatic 93, 3)) (hc : cells ≤ MC) (hs : slots ≤ MS) (kk : gZ x A Q nL cells slots V n (pc + 3) lv (.int (cellv xs Ln) :: rest)) : gZ x A Q nL cells slots V n pc lv (.int 0 :: .ref b :: rest) := by
  refine g_after C (mc1 := 0) (ms1 := 0) (rest := rest) (P := fun r V' n' => r = cellv xs Ln ∧ V' = V ∧ n' = n) ?_ (fun k V' n' h => by obtain ⟨rfl, rfl, rfl⟩ := h; exact kk)
  obtain ⟨p, l, e, R, s, m, args, below, meth, c, D, dA⟩ := x
  obtain ⟨hx, hb, hml, hown, hts, hK, hA, hlocks, hl, hR⟩ := C
  obtain ⟨q1, q2, q3, q4, q5, q6⟩ := csW_93
  obtain ⟨hX, hbl, hbA⟩ := S
  intro H locs ls hH hls
  have hbn : ¬ z_A V n b := fun h => hbA (g_AA hA hH b h)
  have hHb : H[b]? = s.heap[b]? := hH.1.2.1 b hbl hbA
  refine ⟨_, va_runS (As := [.ref b, .int 0]) (rest := rest) ⟨hx, hb, hml, hown, hts⟩ (c_cell (D := D) (dA := dA) (V := V) (n := n) (b := b) (xs := xs) hLn hl) (cwS 2 hts (fun w hw => ?_) rfl rfl rfl ⟨rfl, q4, q5, q6⟩ (by rw [hR]; exact ⟨hF, hL⟩)) ⟨fun a U g mk q => ?_, fun U hU hW => ⟨rfl, by rw [hU]; exact hH.2.1, by rw [hU]; exact hH.2.2.1, hK.move hH.1 hU hW (g_AA hA hH), by rw [hU]; exact (hX.kept hHb).moved hW.alike, by rw [hU]; exact Nat.lt_of_lt_of_le hbl hH.1.1, hbn⟩⟩ rfl rfl hls.1 rfl (lv_room hrm) d (by rw [hR]; exact ⟨hc, hs⟩)⟩
  · rcases List.mem_append.mp hw with h | h
    · simp only [List.mem_cons, List.not_mem_nil, or_false] at h
      rcases h with h | h | h
      · rw [h]; exact zTs_good _ q1
      · rw [h]; exact zTs_good _ q2
      · rw [h]; exact zTs_good _ q3
    · exact z_goodC wW_cell w h
  · obtain ⟨g0, g1, g2, g3, g4, g5, g6⟩ := q
    exact ⟨g0, g1, g2, g3.move (va_S.rf) rfl (State.WarmedH.refl U) (fun _ h => h), g4.moved (Vm.Alike.refl U.vm), g5, g6⟩
end GC
