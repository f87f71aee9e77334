/-! the invariants are kept: what a turn changes beside queues -/
section PI
variable {s : zSt}
theorem Iv.ulatest (h : Iv s) (ht : s_tol s = true) {x c : Nat} (hc : c < s_C s) : Iv (u_latest s (fu (s_latest s) x (some c))) := by
  obtain ⟨w, hO, hK, hQ, hT, hF, hP, hE, hR, hH, hb⟩ := h
  refine ⟨w.ulatest (fun k hk => by cases hk; exact hc), hO, hK, hQ, fun hz => ?_, hF, hP, hE, hR, hH, hb⟩
  have hz' : s_tol s = false := hz
  rw [ht] at hz'
  cases hz'
theorem Iv.urow (h : Iv s) {f : Nat → Int32} {g : Nat → Int64} : Iv (u_sum (u_rows s f) g) := by
  obtain ⟨w, hO, hK, hQ, hT, hF, hP, hE, hR, hH, hb⟩ := h
  exact ⟨w.urows.usum, hO, hK, hQ, hT, hF, hP, hE, hR, hH, hb⟩
/-- before anything has been told nothing comes from a channel -/
theorem Iv.told (h : Iv s) {c k : Nat} (hn : nextS s c = some k) : s_tol s = true := by
  obtain ⟨w, hO, hK, hQ, hT, hF, hP, hE, hR, hH, hb⟩ := h
  cases ht : s_tol s with
  | true => rfl
  | false =>
    obtain ⟨t1, t2, t3, t4⟩ := hT ht
    obtain ⟨c1, c2, c3, c4, c5, c6⟩ := t2 c
    cases hf : s_fr s c with
    | none =>
      have hb : barS s c = none := by unfold barS; rw [t1]; rfl
      rw [nextS_src hf, c5, hb, c1, c2] at hn
      simp at hn
    | some j =>
      rw [nextS_line hf, c5, c3] at hn
      cases hn
end PI
