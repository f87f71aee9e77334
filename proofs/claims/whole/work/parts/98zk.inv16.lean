/-! the invariants are kept: a line's END; a row goes out -/
section PI
variable {s : zSt}
theorem Iv.lend (h : Iv s) {c k : Nat} (hc : c < s_C s) (hf : s_fr s c = some k) (hh : s_held s c = none) (hn : nextS s c = some 2) : Iv (u_over (u_q s (fu (s_q s) c (s_q s c).tail)) (fu (s_over s) c true)) := by
  have ht := h.told hn
  obtain ⟨z, l, hl, hz⟩ := head_of hf hn
  obtain ⟨w, hO, hK, hQ, hT, hF, hP, hE, hR, hH, hbg⟩ := h
  obtain ⟨⟨e1, e2⟩, _⟩ := hE c k hc hf
  have hk : s_ended s k = true := e2 z (by rw [hl]; exact List.mem_cons_self) hz
  have hl0 : l = [] := by
    cases l with
    | nil => rfl
    | cons a l =>
      rw [hl] at e1
      exact absurd hz (e1 z (show z ∈ z :: (a :: l).dropLast from List.mem_cons_self))
  have htl : (s_q s c).tail = [] := by rw [hl, hl0]; rfl
  have wq : Wf (u_over (u_q s (fu (s_q s) c (s_q s c).tail)) (fu (s_over s) c true)) := (w.utail (c := c)).uover
  rw [htl] at wq ⊢
  refine ⟨wq, fun j hj he => ?_, hK, fun c' j hc' hf' => ?_, fun hz => ?_, ⟨fun c' hc' => ?_, hF.2⟩, hP, fun c' j hc' hf' => ?_, hR, hH, hbg⟩
  · have hj' : j < s_C s := hj
    obtain ⟨o1, o2⟩ := hO j hj' he
    by_cases q : j = c
    · have e1 : PcS (u_over (u_q s (fu (s_q s) c [])) (fu (s_over s) c true)) j = [] := by
        unfold PcS restS
        rw [y_held_over, y_held_q, y_q_over, su_q, su_over, q, fu_self, fu_self, hh]
        rfl
      rw [e1]
      refine ⟨List.nil_prefix, fun hl => ?_⟩
      have := hl.1
      rw [su_over, q, fu_self] at this
      cases this
    · have e1 : PcS (u_over (u_q s (fu (s_q s) c [])) (fu (s_over s) c true)) j = PcS s j := by
        unfold PcS restS
        rw [y_held_over, y_held_q, y_q_over, su_q, su_over, fu_ne _ _ q, fu_ne _ _ q, y_fr_over, y_fr_q, y_ended_over, y_ended_q, d_dueS_over, d_dueS_q, d_NKs_over, d_NKs_q]
      rw [e1]
      refine ⟨o1, fun hl => o2 ⟨?_, hl.2⟩⟩
      have := hl.1
      rw [su_over, fu_ne _ _ q] at this
      exact this
  · have h1 := hQ c' j hc' hf'
    rw [y_q_over, su_q, y_ended_over, y_ended_q]
    by_cases q : c' = c
    · rw [q, fu_self]
      exact Nat.zero_le _
    · rw [fu_ne _ _ q]; exact h1
  · have hz' : s_tol s = false := hz
    rw [ht] at hz'
    cases hz'
  · have hc2 : s_C s ≤ c' := hc'
    obtain ⟨f1, f2, f3, f4, f5, f6⟩ := hF.1 c' hc2
    refine ⟨?_, f2, f3, f4, ?_, f6⟩
    · rw [y_q_over, su_q, fu_ne _ _ (by omega)]
      exact f1
    · rw [su_over, fu_ne _ _ (by omega)]
      exact f5
  · have hf2 : s_fr s c' = some j := hf'
    obtain ⟨g1, g2⟩ := hE c' j hc' hf2
    rw [y_q_over, su_q, su_over]
    by_cases q : c' = c
    · rw [q, fu_self, fu_self]
      have hjk : j = k := by rw [q, hf] at hf2; exact (Option.some.inj hf2).symm
      refine ⟨⟨fun y hy => (by cases hy), fun y hy => (by cases hy)⟩, fun _ _ => ⟨rfl, ?_⟩⟩
      rw [hjk]
      exact hk
    · rw [fu_ne _ _ q, fu_ne _ _ q]
      exact ⟨g1, g2⟩
theorem credit_lt {x : Nat} (h : credit s x = true) {c : Nat} (hc : c < s_C s) (hf : s_fr s c = some x) : (s_q s c).length < 8 := by
  unfold credit at h
  exact of_decide_eq_true (List.all_eq_true.mp h c (mem_outs.mpr ⟨hc, hf⟩))
theorem dl_app {l : List (Nat × Int64)} {z y : Nat × Int64} (h : y ∈ (l ++ [z]).dropLast) : y ∈ l := by
  rw [List.dropLast_concat] at h
  exact h
theorem Iv.giveRow (h : Iv s) (ht : s_tol s = true) {x : Nat} {v : Int64} (he : s_ended s x = false) (hcr : credit s x = true) : Iv (giveS s x 0 v) := by
  obtain ⟨w, hO, hK, hQ, hT, hF, hP, hE, hR, hH, hbg⟩ := h
  have wq : Wf (giveS s x 0 v) := w.give (by omega) (fun c hc hf => by have := credit_lt hcr hc hf; omega) (fun z => by omega)
  refine ⟨wq, fun j hj hej => ?_, hK, fun c' j hc' hf' => ?_, fun hz => ?_, ⟨fun c' hc' => ?_, hF.2⟩, hP, fun c' j hc' hf' => ?_, hR, hH, hbg⟩
  · have hj' : j < s_C s := hj
    have e1 : PcS (giveS s x 0 v) j = PcS s j := by
      have e2 : bars (s_q (giveS s x 0 v) j) = bars (s_q s j) := by
        by_cases q : s_fr s j = some x
        · rw [giveS_qi hj' q, bars_app, bars_row v (by decide), List.append_nil]
        · rw [giveS_qo q]
      unfold PcS
      rw [e2]
      rfl
    rw [e1]
    exact hO j hj' hej
  · have hc2 : c' < s_C s := hc'
    have hf2 : s_fr s c' = some j := hf'
    have h1 := hQ c' j hc2 hf2
    show (s_q (giveS s x 0 v) c').length ≤ if s_ended s j then 9 else 8
    by_cases q : s_fr s c' = some x
    · have h2 := credit_lt hcr hc2 q
      rw [giveS_qi hc2 q, List.length_append, List.length_singleton]
      split <;> omega
    · rw [giveS_qo q]; exact h1
  · have hz' : s_tol s = false := hz
    rw [ht] at hz'
    cases hz'
  · have hc2 : s_C s ≤ c' := hc'
    obtain ⟨f1, f2, f3, f4, f5, f6⟩ := hF.1 c' hc2
    refine ⟨?_, f2, f3, f4, f5, f6⟩
    rw [z_giveS_q]
    show (if c' < s_C s ∧ s_fr s c' = some x then s_q s c' ++ [(0, v)] else s_q s c') = []
    rw [if_neg (fun z => by have := z.1; omega)]
    exact f1
  · have hc2 : c' < s_C s := hc'
    have hf2 : s_fr s c' = some j := hf'
    obtain ⟨⟨g1, g2⟩, g3⟩ := hE c' j hc2 hf2
    by_cases q : s_fr s c' = some x
    · have hjx : j = x := by rw [hf2] at q; exact Option.some.inj q
      rw [giveS_qi hc2 q]
      have hno : ∀ y, y ∈ s_q s c' → y.1 ≠ 2 := fun y hy hy2 => by
        have := g2 y hy hy2
        rw [hjx, he] at this
        cases this
      refine ⟨⟨fun y hy => hno y (dl_app hy), fun y hy hy2 => ?_⟩, fun h1 h2 => ?_⟩
      · rcases List.mem_append.mp hy with hy | hy
        · exact absurd hy2 (hno y hy)
        · rw [List.mem_singleton.mp hy] at hy2
          cases hy2
      · have := (g3 h1 h2).2
        rw [hjx, he] at this
        cases this
    · rw [giveS_qo q]
      exact ⟨⟨g1, g2⟩, g3⟩
end PI
