/-! the invariants are kept: channel -/
section PI
variable {s : zSt}
theorem Iv.channel (h : Iv s) (ht : s_tol s = false) (hC : s_C s < 16) {k : Option Nat} {b : Nat} (hb : b < s_N s) (hk : ∀ a, k = some a → a < s_N s ∧ hasIn s a = true ∧ reachS s b a = false) : Iv (channelS s k b) := by
  obtain ⟨w, hO, hK, hQ, hT, hF, hP, hE, hR, hH, hbg⟩ := h
  obtain ⟨t1, t2, t3, t4⟩ := hT ht
  have eC : s_C (channelS s k b) = s_C s + 1 := by unfold channelS; rw [su_C]
  have eF : s_fr (channelS s k b) = fu (s_fr s) (s_C s) k := by unfold channelS; rw [y_fr_C, y_fr_to, su_fr]
  have eT : s_to (channelS s k b) = fu (s_to s) (s_C s) b := by unfold channelS; rw [y_to_C, su_to]
  have hrest : s_M (channelS s k b) = s_M s ∧ s_N (channelS s k b) = s_N s ∧ s_tol (channelS s k b) = s_tol s ∧ s_acks (channelS s k b) = s_acks s ∧ s_latest (channelS s k b) = s_latest s ∧ s_ended (channelS s k b) = s_ended s ∧ s_held (channelS s k b) = s_held s ∧ s_over (channelS s k b) = s_over s ∧ s_log (channelS s k b) = s_log s ∧ s_fin (channelS s k b) = s_fin s ∧ s_stand (channelS s k b) = s_stand s ∧ s_pos (channelS s k b) = s_pos s ∧ s_q (channelS s k b) = s_q s ∧ s_kept (channelS s k b) = s_kept s ∧ s_fails (channelS s k b) = s_fails s ∧ s_taken (channelS s k b) = s_taken s ∧ s_kSum (channelS s k b) = s_kSum s ∧ s_kRows (channelS s k b) = s_kRows s ∧ s_kEnd (channelS s k b) = s_kEnd s ∧ s_cond (channelS s k b) = s_cond s ∧ s_came (channelS s k b) = s_came s := by
    unfold channelS
    simp only [y_N_C, y_fr_C, y_to_C, y_tol_C, y_sum_C, y_rows_C, y_ended_C, y_latest_C, y_q_C, y_log_C, y_fin_C, y_stand_C, y_over_C, y_held_C, y_M_C, y_cond_C, y_pos_C, y_came_C, y_kept_C, y_kEnd_C, y_kSum_C, y_kRows_C, y_fails_C, y_taken_C, y_acks_C, su_C, y_N_to, y_C_to, y_fr_to, y_tol_to, y_sum_to, y_rows_to, y_ended_to, y_latest_to, y_q_to, y_log_to, y_fin_to, y_stand_to, y_over_to, y_held_to, y_M_to, y_cond_to, y_pos_to, y_came_to, y_kept_to, y_kEnd_to, y_kSum_to, y_kRows_to, y_fails_to, y_taken_to, y_acks_to, su_to, y_N_fr, y_C_fr, y_to_fr, y_tol_fr, y_sum_fr, y_rows_fr, y_ended_fr, y_latest_fr, y_q_fr, y_log_fr, y_fin_fr, y_stand_fr, y_over_fr, y_held_fr, y_M_fr, y_cond_fr, y_pos_fr, y_came_fr, y_kept_fr, y_kEnd_fr, y_kSum_fr, y_kRows_fr, y_fails_fr, y_taken_fr, y_acks_fr, su_fr, and_self]
  obtain ⟨q1, qN, q2, q3, qL, q6, q7, q8, q9, q10, q11, q12, q13, q14, q15, q16, q17, q18, q19, q20, q21⟩ := hrest
  have hM0 : s_M (channelS s k b) = 0 := by rw [q1]; exact t1
  have hNK : ∀ x, NKs (channelS s k b) x = [] := fun x => by unfold NKs; rw [hM0]; rfl
  have hdu : ∀ c, dueS (channelS s k b) c = [] := fun c => by unfold dueS; rw [hM0]; rfl
  have hqe : ∀ c, s_q (channelS s k b) c = [] := fun c => by rw [q13]; exact (t2 c).2.2.1
  have hhi : ∀ x, hasIn s x = true → hasIn (channelS s k b) x = true := fun x hx => by
    unfold hasIn at hx ⊢
    rw [ins_new]
    cases hl : ins s x with
    | nil => rw [hl] at hx; cases hx
    | cons c r => rfl
  have hfu : ∀ c, c < s_C s → fu (s_fr s) (s_C s) k c = s_fr s c := fun c hc => fu_ne _ _ (by omega)
  have hfo : ∀ c, c < s_C s → fu (s_to s) (s_C s) b c = s_to s c := fun c hc => fu_ne _ _ (by omega)
  refine ⟨⟨by rw [qN]; exact w.N1, by rw [qN]; exact w.N8, by rw [eC]; omega, by rw [q1]; exact w.M, fun c hc => ?_, fun c j hc hf => ?_, fun c => by rw [hqe]; exact Nat.zero_le _, by rw [q9]; exact w.log, by rw [q9, q11]; exact w.stand, fun c j hj => ?_, fun x j hj => ?_, fun z hz => ?_, by rw [q3]; exact w.ackn, by rw [q20]; exact w.cond, by rw [q12]; exact w.pos, fun c z hz => ?_, fun c z hz => ?_, fun c _ _ => hqe c⟩, fun c hc he => ?_, ?_, fun c j hc hf => ?_, fun _ => ?_, ⟨fun c hc => ?_, fun m' hm' => ?_⟩, fun c hc => ?_, fun c j hc hf => ?_, ?_, fun c j hc hf => ?_, ?_⟩
  · rw [eC] at hc
    rw [eT, qN]
    by_cases q : c = s_C s
    · rw [q, fu_self]; exact hb
    · rw [hfo c (by omega)]; exact w.to (by omega)
  · rw [eC] at hc
    rw [eF] at hf
    rw [qN]
    by_cases q : c = s_C s
    · rw [q, fu_self] at hf; exact (hk j hf).1
    · rw [hfu c (by omega)] at hf; exact w.fr (by omega) hf
  · rw [q7] at hj
    rw [q1]
    exact w.held hj
  · rw [qL] at hj
    rw [(t3 x).1] at hj
    cases hj
  · rw [q3] at hz
    rw [q1, qN]
    exact w.acks hz
  · rw [hqe] at hz; cases hz
  · rw [hqe] at hz; cases hz
  · have e1 : PcS (channelS s k b) c = [] := by
      unfold PcS restS
      rw [q7, (t2 c).2.2.2.2.2, hqe c, hdu]
      show [] ++ (bars [] ++ _) = []
      rw [List.nil_append]
      show [] ++ _ = []
      rw [List.nil_append]
      split
      · rfl
      · split
        · rfl
        · split
          · rfl
          · exact hNK _
    rw [e1, hNK]
    exact ⟨List.prefix_refl _, fun _ => rfl⟩
  · unfold IvK
    rw [q3, t4]
    exact Nat.zero_le _
  · rw [hqe]; exact Nat.zero_le _
  · rw [q1, q3]
    refine ⟨t1, fun c => ?_, fun x => ?_, t4⟩
    · rw [q9, q10, q13, q11, q8, q7]; exact t2 c
    · rw [qL, q6]; exact t3 x
  · rw [eC] at hc
    rw [q13, q9, q10, q11, q8, q7]
    exact hF.1 c (by omega)
  · rw [q1] at hm'
    rw [q20, q14, q15, q16, q17, q18, q19, q21]
    exact hF.2 m' hm'
  · rw [hM0, hdu]
    exact ⟨fun m m' _ hm => by omega, fun m hm => by omega, fun m hm => by cases hm⟩
  · rw [hqe, q8]
    refine ⟨⟨fun z hz => by simp at hz, fun z hz => by simp at hz⟩, fun h1 _ => ?_⟩
    rw [(t2 c).2.2.2.2.1] at h1
    cases h1
  · cases hkk : k with
    | none =>
      obtain ⟨r, hr⟩ := hR
      refine ⟨r, fun c j hc hf => ?_⟩
      rw [hkk] at eC eF eT
      rw [eC] at hc
      rw [eF] at hf
      rw [eT]
      by_cases q : c = s_C s
      · rw [q, fu_self] at hf; cases hf
      · rw [fu_ne _ _ q] at hf ⊢; exact hr c j (by omega) hf
    | some a =>
      obtain ⟨ha, hi, hre⟩ := hk a hkk
      obtain ⟨r, hr1, hr2⟩ := rank_new w hR hb hre
      refine ⟨r, fun c j hc hf => ?_⟩
      rw [hkk] at eC eF eT
      rw [eC] at hc
      rw [eF] at hf
      rw [eT]
      by_cases q : c = s_C s
      · rw [q, fu_self] at hf ⊢
        cases hf
        exact hr1
      · rw [fu_ne _ _ q] at hf ⊢; exact hr2 c j (by omega) hf
  · rw [eC] at hc
    rw [eF] at hf
    by_cases q : c = s_C s
    · rw [q, fu_self] at hf; exact hhi j (hk j hf).2.1
    · rw [hfu c (by omega)] at hf; exact hhi j (hH c j (by omega) hf)
  · unfold begunS
    rw [hM0]
    exact Nat.zero_le _
end PI
