/-! the invariants are kept: a channel is over -/
section PI
variable {s : zSt}
theorem Iv.send_over (h : Iv s) {c : Nat} (hc : c < s_C s) (hh : s_held s c = none) (hf : s_fr s c = none) (hn : nextS s c = some 2) : Iv (u_over s (fu (s_over s) c true)) := by
  have ht := h.told hn
  obtain ⟨w, hO, hK, hQ, hT, hF, hP, hE, hR, hH, hbg⟩ := h
  refine ⟨w.uover, fun j hj he => ?_, hK, hQ, fun hz => ?_, ⟨fun c' hc' => ?_, hF.2⟩, hP, fun c' k hc' hf' => ?_, hR, hH, hbg⟩
  · have hj' : j < s_C s := hj
    obtain ⟨o1, o2⟩ := hO j hj' he
    by_cases q : j = c
    · have e1 : PcS (u_over s (fu (s_over s) c true)) j = [] := by
        unfold PcS restS
        rw [y_held_over, y_q_over, su_over, q, fu_self, hh, w.src hc hf]
        rfl
      rw [e1]
      refine ⟨List.nil_prefix, fun hl => ?_⟩
      have := hl.1
      rw [su_over, q, fu_self] at this
      cases this
    · have e1 : PcS (u_over s (fu (s_over s) c true)) j = PcS s j := by
        unfold PcS restS
        rw [y_held_over, y_q_over, su_over, fu_ne _ _ q, y_fr_over, y_ended_over, d_dueS_over, d_NKs_over]
      rw [e1]
      refine ⟨o1, fun hl => o2 ⟨?_, hl.2⟩⟩
      have := hl.1
      rw [su_over, fu_ne _ _ q] at this
      exact this
  · have hz' : s_tol s = false := hz
    rw [ht] at hz'
    cases hz'
  · have hc2 : s_C s ≤ c' := hc'
    obtain ⟨f1, f2, f3, f4, f5, f6⟩ := hF.1 c' hc2
    refine ⟨f1, f2, f3, f4, ?_, f6⟩
    rw [su_over, fu_ne _ _ (by omega)]
    exact f5
  · have hf2 : s_fr s c' = some k := hf'
    have hne : c' ≠ c := fun z => by rw [z, hf] at hf2; cases hf2
    obtain ⟨e1, e2⟩ := hE c' k hc' hf2
    refine ⟨e1, fun h1 h2 => e2 ?_ h2⟩
    rw [su_over, fu_ne _ _ hne] at h1
    exact h1
end PI
