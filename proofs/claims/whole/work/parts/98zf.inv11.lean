/-! the invariants are kept: a source gives a row -/
section PI
variable {s : zSt}
theorem Iv.ustand (h : Iv s) {c : Nat} (hc : c < s_C s) (hf : s_fr s c = none) (hn : nextS s c = some 0) : Iv (u_stand s (fu (s_stand s) c (s_stand s c + 1))) := by
  have ht := h.told hn
  obtain ⟨w, hO, hK, hQ, hT, hF, hP, hE, hR, hH, hb⟩ := h
  obtain ⟨hbn, hlt⟩ := src0 hf hn
  rw [barS_find] at hbn
  have hno := List.find?_eq_none.mp hbn
  refine ⟨w.ustand hlt, hO, hK, hQ, fun hz => ?_, ⟨fun c' hc' => ?_, hF.2⟩, fun c' hc' => ?_, hE, hR, hH, hb⟩
  · have hz' : s_tol s = false := hz
    rw [ht] at hz'
    cases hz'
  · have hc2 : s_C s ≤ c' := hc'
    obtain ⟨f1, f2, f3, f4, f5, f6⟩ := hF.1 c' hc2
    refine ⟨f1, f2, f3, ?_, f5, f6⟩
    show fu (s_stand s) c (s_stand s c + 1) c' = 0
    rw [fu_ne _ _ (by omega)]
    exact f4
  · obtain ⟨p1, p2, p3⟩ := hP c' hc'
    refine ⟨p1, p2, fun m hm => ?_⟩
    have hm2 : m ∈ dueS s c' := hm
    show fu (s_stand s) c (s_stand s c + 1) c' ≤ s_pos s m c'
    by_cases q : c' = c
    · rw [q, fu_self]
      rw [q] at hm2 p3
      have h1 := p3 m hm2
      have h2 : ¬ s_pos s m c = s_stand s c := fun z => hno m hm2 (by rw [z]; exact beq_self_eq_true _)
      omega
    · rw [fu_ne _ _ q]; exact p3 m hm2
end PI
