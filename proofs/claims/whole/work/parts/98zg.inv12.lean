/-! the invariants are kept: a source gives a barrier -/
section PI
variable {s : zSt}
theorem filter_head {m : Nat} {r : List Nat} (h : (m :: r).Pairwise (· < ·)) : ((m :: r).filter fun z => !(z == m)) = r := by
  rw [List.filter_cons_of_neg (by rw [beq_self_eq_true]; decide)]
  refine List.filter_eq_self.mpr fun j hj => ?_
  have := (List.pairwise_cons.mp h).1 j hj
  rw [bqf (by omega)]
  rfl
theorem over_of {c k : Nat} (hn : nextS s c = some k) : s_over s c = false := by
  cases ho : s_over s c with
  | false => rfl
  | true =>
    unfold nextS at hn
    rw [ho, if_pos rfl] at hn
    cases hn
theorem Wf.sbar (w : Wf s) {c m : Nat} (hm : m < s_M s) : Wf (u_held (u_came s (fu2 (s_came s) m c true)) (fu (s_held s) c (some m))) := by
  have := (w.ucame (g := fu2 (s_came s) m c true)).uheld (c := c) (y := some m) (fun j hj => by cases hj; rw [y_M_came]; exact hm)
  rw [y_held_came] at this
  exact this
theorem Iv.sbar (h : Iv s) {c m : Nat} (hc : c < s_C s) (hf : s_fr s c = none) (hh : s_held s c = none) (hn : nextS s c = some 1) (hb : barS s c = some m) : Iv (u_held (u_came s (fu2 (s_came s) m c true)) (fu (s_held s) c (some m))) := by
  have ht := h.told hn
  have hov := over_of hn
  obtain ⟨w, hO, hK, hQ, hT, hF, hP, hE, hR, hH, hbg⟩ := h
  have hmM := barS_lt hb
  obtain ⟨hps, r, hr⟩ := due_of_bar (hP.due hc) hb
  have hsort := dueS_sorted s c
  rw [hr] at hsort
  have hdue : dueS (u_held (u_came s (fu2 (s_came s) m c true)) (fu (s_held s) c (some m))) = fu (dueS s) c r := by
    rw [d_dueS_held, dueS_came, hr, filter_head hsort]
  have hPc : ∀ j, j < s_C s → PcS (u_held (u_came s (fu2 (s_came s) m c true)) (fu (s_held s) c (some m))) j = PcS s j := fun j hj => by
    unfold PcS restS
    rw [su_held, y_q_held, y_q_came, y_over_held, y_over_came, y_fr_held, y_fr_came, y_ended_held, y_ended_came, d_NKs_held, d_NKs_came, hdue]
    by_cases q : j = c
    · rw [q, fu_self, fu_self, hf, hov, hh, w.src hc hf, hr]
      rfl
    · rw [fu_ne _ _ q, fu_ne _ _ q]
  refine ⟨w.sbar hmM, fun j hj he => ?_, hK, hQ, fun hz => ?_, ⟨fun c' hc' => ?_, fun m' hm' => ?_⟩, fun c' hc' => ?_, hE, hR, hH, hbg⟩
  · have hj' : j < s_C s := hj
    rw [hPc j hj']
    exact hO j hj' he
  · have hz' : s_tol s = false := hz
    rw [ht] at hz'
    cases hz'
  · have hc2 : s_C s ≤ c' := hc'
    obtain ⟨f1, f2, f3, f4, f5, f6⟩ := hF.1 c' hc2
    refine ⟨f1, f2, f3, f4, f5, ?_⟩
    rw [su_held, fu_ne _ _ (by omega)]
    exact f6
  · have hm2 : s_M s ≤ m' := hm'
    obtain ⟨f1, f2, f3⟩ := hF.2 m' hm2
    refine ⟨f1, f2, fun c' => ?_⟩
    rw [y_came_held, su_came, fu2_ne _ _ _ (by omega)]
    exact f3 c'
  · obtain ⟨p1, p2, p3⟩ := hP c' hc'
    refine ⟨p1, p2, fun j hj => p3 j ?_⟩
    rw [hdue] at hj
    by_cases q : c' = c
    · rw [q, fu_self] at hj
      rw [q, hr]
      exact List.mem_cons_of_mem _ hj
    · rw [fu_ne _ _ q] at hj; exact hj
end PI
