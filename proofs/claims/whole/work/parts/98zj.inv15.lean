/-! the invariants are kept: a line gives a barrier -/
section PI
variable {s : zSt}
theorem Iv.lbar (h : Iv s) {c k m : Nat} {z : Nat × Int64} {l : List (Nat × Int64)} (hc : c < s_C s) (hf : s_fr s c = some k) (hh : s_held s c = none) (hn : nextS s c = some 1) (hl : s_q s c = z :: l) (hz1 : z.1 = 1) (hz2 : z.2 = lN m) (hm : m < s_M s) : Iv (u_held (u_q s (fu (s_q s) c (s_q s c).tail)) (fu (s_held s) c (some m))) := by
  have ht := h.told hn
  have hov := over_of hn
  obtain ⟨w, hO, hK, hQ, hT, hF, hP, hE, hR, hH, hbg⟩ := h
  have hM := w.M
  have hb : bars (s_q s c) = m :: bars (s_q s c).tail := by
    rw [hl, bars_cons1 hz1, hz2, lN_i, nI_clamp (by omega)]
    rfl
  have wq : Wf (u_held (u_q s (fu (s_q s) c (s_q s c).tail)) (fu (s_held s) c (some m))) := by
    have := (w.utail (c := c)).uheld (c := c) (y := some m) (fun j hj => by cases hj; rw [y_M_q]; exact hm)
    rw [y_held_q] at this
    exact this
  refine ⟨wq, fun j hj he => ?_, hK, fun c' j hc' hf' => ?_, fun hz => ?_, ⟨fun c' hc' => ?_, hF.2⟩, hP, fun c' j hc' hf' => ?_, hR, hH, hbg⟩
  · have hj' : j < s_C s := hj
    have e1 : PcS (u_held (u_q s (fu (s_q s) c (s_q s c).tail)) (fu (s_held s) c (some m))) j = PcS s j := by
      unfold PcS restS
      rw [su_held, y_q_held, su_q, y_over_held, y_over_q, y_fr_held, y_fr_q, y_ended_held, y_ended_q, d_dueS_held, d_dueS_q, d_NKs_held, d_NKs_q]
      by_cases q : j = c
      · rw [q, fu_self, fu_self, hh, hb]
        rfl
      · rw [fu_ne _ _ q, fu_ne _ _ q]
    rw [e1]
    exact hO j hj' he
  · have h1 := hQ c' j hc' hf'
    rw [y_q_held, su_q, y_ended_held, y_ended_q]
    by_cases q : c' = c
    · rw [q, fu_self, List.length_tail]
      rw [q] at h1
      omega
    · rw [fu_ne _ _ q]; exact h1
  · have hz' : s_tol s = false := hz
    rw [ht] at hz'
    cases hz'
  · have hc2 : s_C s ≤ c' := hc'
    obtain ⟨f1, f2, f3, f4, f5, f6⟩ := hF.1 c' hc2
    refine ⟨?_, f2, f3, f4, f5, ?_⟩
    · rw [y_q_held, su_q, fu_ne _ _ (by omega)]
      exact f1
    · rw [su_held, fu_ne _ _ (by omega)]
      exact f6
  · obtain ⟨⟨e1, e2⟩, e3⟩ := hE c' j hc' hf'
    rw [y_q_held, su_q]
    by_cases q : c' = c
    · rw [q] at e1 e2 e3 ⊢
      rw [fu_self]
      rw [hl] at e1 e2 ⊢
      refine ⟨⟨fun y hy => e1 y (dropLast_tail hy), fun y hy => e2 y (List.mem_cons_of_mem _ hy)⟩, fun h1 _ => ?_⟩
      have h1' : s_over s c = true := h1
      rw [hov] at h1'
      cases h1'
    · rw [fu_ne _ _ q]
      exact ⟨⟨e1, e2⟩, e3⟩
end PI
