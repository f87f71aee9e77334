/-! the invariants are kept: a line gives a row -/
section PI
variable {s : zSt}
theorem Iv.lrow (h : Iv s) {c k : Nat} (hc : c < s_C s) (hf : s_fr s c = some k) (hn : nextS s c = some 0) : Iv (u_q s (fu (s_q s) c (s_q s c).tail)) := by
  have ht := h.told hn
  have hov := over_of hn
  obtain ⟨z, l, hl, hz⟩ := head_of hf hn
  obtain ⟨w, hO, hK, hQ, hT, hF, hP, hE, hR, hH, hbg⟩ := h
  have hb : bars (s_q s c).tail = bars (s_q s c) := by rw [hl, bars_cons0 (by rw [hz]; decide)]; rfl
  refine ⟨w.utail, fun j hj he => ?_, hK, fun c' j hc' hf' => ?_, fun hz => ?_, ⟨fun c' hc' => ?_, hF.2⟩, hP, fun c' j hc' hf' => ?_, hR, hH, hbg⟩
  · have hj' : j < s_C s := hj
    have e1 : PcS (u_q s (fu (s_q s) c (s_q s c).tail)) j = PcS s j := by
      unfold PcS restS
      rw [y_held_q, su_q, y_over_q, y_fr_q, y_ended_q, d_dueS_q, d_NKs_q]
      by_cases q : j = c
      · rw [q, fu_self, hb]
      · rw [fu_ne _ _ q]
    rw [e1]
    exact hO j hj' he
  · have h1 := hQ c' j hc' hf'
    rw [su_q, y_ended_q]
    by_cases q : c' = c
    · rw [q, fu_self, List.length_tail]
      rw [q] at h1
      omega
    · rw [fu_ne _ _ q]; exact h1
  · have hz' : s_tol s = false := hz
    rw [ht] at hz'
    cases hz'
  · have hc2 : s_C s ≤ c' := hc'
    obtain ⟨f1, f2, f3, f4, f5, f6⟩ := hF.1 c' hc2
    refine ⟨?_, f2, f3, f4, f5, f6⟩
    rw [su_q, fu_ne _ _ (by omega)]
    exact f1
  · obtain ⟨⟨e1, e2⟩, e3⟩ := hE c' j hc' hf'
    rw [su_q]
    by_cases q : c' = c
    · rw [q] at e1 e2 e3 ⊢
      rw [fu_self]
      rw [hl] at e1 e2 ⊢
      refine ⟨⟨fun y hy => e1 y (dropLast_tail hy), fun y hy => e2 y (List.mem_cons_of_mem _ hy)⟩, fun h1 _ => ?_⟩
      have h1' : s_over s c = true := h1
      rw [hov] at h1'
      cases h1'
    · rw [fu_ne _ _ q]
      exact ⟨⟨e1, e2⟩, e3⟩
end PI
