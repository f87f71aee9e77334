/-! THE REFERENCE'S METHODS as equations: small ones -/
section PR
variable {e : pE} {t : pS} {n : Nat}
/-- the reference's cells are all there -/
def pRef (e : pE) : Prop := ∀ s, s ≤ 28 → pIs e 6 0 s
theorem fR_thrown_eq (h : pRef e) : fR_thrown (pv e t) n (pL e 6 0 0) = some (.inl (some (.int (qI t 6 0 1))), pv e t, n) := by
  unfold fR_thrown
  rw [gf_6_1 (h 0 (by omega))]
  rfl
theorem fR_isTask_eq (h : pRef e) (x : Int32) : fR_isTask (pv e t) n (pL e 6 0 0) x = some (.inl (some (.int (if x < 0 then 0 else if qI t 6 0 0 ≤ x then 0 else 1))), pv e t, n) := by
  unfold fR_isTask fR_isTask_16 zrZ
  rw [gf_6_0 (h 0 (by omega))]
  simp only [Option.bind_some]
  split
  · rfl
  · split <;> rfl
theorem fR_isChannel_eq (h : pRef e) (x : Int32) : fR_isChannel (pv e t) n (pL e 6 0 0) x = some (.inl (some (.int (if x < 0 then 0 else if qI t 6 0 7 ≤ x then 0 else 1))), pv e t, n) := by
  unfold fR_isChannel fR_isChannel_16 zrZ
  rw [gf_6_7 (h 0 (by omega))]
  simp only [Option.bind_some]
  split
  · rfl
  · split <;> rfl
theorem fR_isMark_eq (h : pRef e) (x : Int32) : fR_isMark (pv e t) n (pL e 6 0 0) x = some (.inl (some (.int (if x < 0 then 0 else if qI t 6 0 19 ≤ x then 0 else 1))), pv e t, n) := by
  unfold fR_isMark fR_isMark_16 zrZ
  rw [gf_6_19 (h 0 (by omega))]
  simp only [Option.bind_some]
  split
  · rfl
  · split <;> rfl
end PR
