/-! the invariants are kept: keeper, restore -/
section PI
variable {s : zSt}
theorem Iv.keeper (h : Iv s) : Iv (keeperS s).2 := by
  cases hk : s_acks s with
  | nil =>
    have e1 : keeperS s = (0, s) := by unfold keeperS; rw [hk]
    rw [e1]
    exact h
  | cons z r =>
    obtain ⟨m, x⟩ := z
    obtain ⟨hm, hx⟩ := h.1.acks (z := (m, x)) (by rw [hk]; exact List.mem_cons_self)
    have hm : m < s_M s := hm
    have h1 := h.tail hk
    have hm1 : m < s_M (u_acks s r) := hm
    rw [keeperS_eq s hk]
    dsimp only
    by_cases q : s_cond (u_acks s r) m ≠ 0 ∨ s_taken (u_acks s r) m x = true
    · rw [if_pos q]; exact h1
    · rw [if_neg q]
      have h2 := h1.taken (m := m) (x := x) hm1
      by_cases q2 : countS (u_taken (u_acks s r) (fu2 (s_taken (u_acks s r)) m x true)) m < s_N (u_acks s r)
      · rw [if_pos q2]; exact h2
      · rw [if_neg q2]
        have hc0 : s_cond (u_taken (u_acks s r) (fu2 (s_taken (u_acks s r)) m x true)) m = 0 := by
          rw [y_cond_taken]
          by_cases z : s_cond (u_acks s r) m = 0
          · exact z
          · exact absurd (Or.inl z) q
        have hm2 : m < s_M (u_taken (u_acks s r) (fu2 (s_taken (u_acks s r)) m x true)) := by rw [y_M_taken]; exact hm1
        have h3 := h2.close (how := 1) hm2 hc0 (by omega) (by omega)
        exact h3.gu m (by rw [z_closeS_M]; omega)
theorem gu_cond (s : zSt) (k : Nat) : ∀ j, j < k → s_cond (giveUpTo k s) j ≠ 0 := by
  induction k with
  | zero => intro j hj; omega
  | succ k ih =>
    intro j hj
    rw [giveUpTo_s]
    by_cases q : s_cond (giveUpTo k s) k = 0
    · rw [if_pos q, z_closeS_cond]
      by_cases r : j = k
      · rw [r, fu_self]; omega
      · rw [fu_ne _ _ r]; exact ih j (by omega)
    · rw [if_neg q]
      by_cases r : j = k
      · rw [r]; exact q
      · exact ih j (by omega)
theorem Wf.bC (w : Wf s) {m c : Nat} (hp : ∀ j, j < s_C s → s_pos s m j ≤ (s_log s j).length) (hc : c ≤ s_C s) : Wf (backC s m c) := by
  refine ⟨(by simp only [z_backC_N, z_backC_C, z_backC_fr, z_backC_to, z_backC_tol, z_backC_sum, z_backC_rows, z_backC_ended, z_backC_latest, z_backC_q, z_backC_log, z_backC_fin, z_backC_stand, z_backC_over, z_backC_held, z_backC_M, z_backC_cond, z_backC_pos, z_backC_came, z_backC_kept, z_backC_kEnd, z_backC_kSum, z_backC_kRows, z_backC_fails, z_backC_taken, z_backC_acks]; exact w.N1), (by simp only [z_backC_N, z_backC_C, z_backC_fr, z_backC_to, z_backC_tol, z_backC_sum, z_backC_rows, z_backC_ended, z_backC_latest, z_backC_q, z_backC_log, z_backC_fin, z_backC_stand, z_backC_over, z_backC_held, z_backC_M, z_backC_cond, z_backC_pos, z_backC_came, z_backC_kept, z_backC_kEnd, z_backC_kSum, z_backC_kRows, z_backC_fails, z_backC_taken, z_backC_acks]; exact w.N8), (by simp only [z_backC_N, z_backC_C, z_backC_fr, z_backC_to, z_backC_tol, z_backC_sum, z_backC_rows, z_backC_ended, z_backC_latest, z_backC_q, z_backC_log, z_backC_fin, z_backC_stand, z_backC_over, z_backC_held, z_backC_M, z_backC_cond, z_backC_pos, z_backC_came, z_backC_kept, z_backC_kEnd, z_backC_kSum, z_backC_kRows, z_backC_fails, z_backC_taken, z_backC_acks]; exact w.C), (by simp only [z_backC_N, z_backC_C, z_backC_fr, z_backC_to, z_backC_tol, z_backC_sum, z_backC_rows, z_backC_ended, z_backC_latest, z_backC_q, z_backC_log, z_backC_fin, z_backC_stand, z_backC_over, z_backC_held, z_backC_M, z_backC_cond, z_backC_pos, z_backC_came, z_backC_kept, z_backC_kEnd, z_backC_kSum, z_backC_kRows, z_backC_fails, z_backC_taken, z_backC_acks]; exact w.M), (by simp only [z_backC_N, z_backC_C, z_backC_fr, z_backC_to, z_backC_tol, z_backC_sum, z_backC_rows, z_backC_ended, z_backC_latest, z_backC_q, z_backC_log, z_backC_fin, z_backC_stand, z_backC_over, z_backC_held, z_backC_M, z_backC_cond, z_backC_pos, z_backC_came, z_backC_kept, z_backC_kEnd, z_backC_kSum, z_backC_kRows, z_backC_fails, z_backC_taken, z_backC_acks]; exact fun c => w.to), (by simp only [z_backC_N, z_backC_C, z_backC_fr, z_backC_to, z_backC_tol, z_backC_sum, z_backC_rows, z_backC_ended, z_backC_latest, z_backC_q, z_backC_log, z_backC_fin, z_backC_stand, z_backC_over, z_backC_held, z_backC_M, z_backC_cond, z_backC_pos, z_backC_came, z_backC_kept, z_backC_kEnd, z_backC_kSum, z_backC_kRows, z_backC_fails, z_backC_taken, z_backC_acks]; exact fun c k => w.fr), ?_, (by simp only [z_backC_N, z_backC_C, z_backC_fr, z_backC_to, z_backC_tol, z_backC_sum, z_backC_rows, z_backC_ended, z_backC_latest, z_backC_q, z_backC_log, z_backC_fin, z_backC_stand, z_backC_over, z_backC_held, z_backC_M, z_backC_cond, z_backC_pos, z_backC_came, z_backC_kept, z_backC_kEnd, z_backC_kSum, z_backC_kRows, z_backC_fails, z_backC_taken, z_backC_acks]; exact w.log), ?_, ?_, (by simp only [z_backC_N, z_backC_C, z_backC_fr, z_backC_to, z_backC_tol, z_backC_sum, z_backC_rows, z_backC_ended, z_backC_latest, z_backC_q, z_backC_log, z_backC_fin, z_backC_stand, z_backC_over, z_backC_held, z_backC_M, z_backC_cond, z_backC_pos, z_backC_came, z_backC_kept, z_backC_kEnd, z_backC_kSum, z_backC_kRows, z_backC_fails, z_backC_taken, z_backC_acks]; exact fun x k => w.latest), (by simp only [z_backC_N, z_backC_C, z_backC_fr, z_backC_to, z_backC_tol, z_backC_sum, z_backC_rows, z_backC_ended, z_backC_latest, z_backC_q, z_backC_log, z_backC_fin, z_backC_stand, z_backC_over, z_backC_held, z_backC_M, z_backC_cond, z_backC_pos, z_backC_came, z_backC_kept, z_backC_kEnd, z_backC_kSum, z_backC_kRows, z_backC_fails, z_backC_taken, z_backC_acks]; exact fun z => w.acks), (by simp only [z_backC_N, z_backC_C, z_backC_fr, z_backC_to, z_backC_tol, z_backC_sum, z_backC_rows, z_backC_ended, z_backC_latest, z_backC_q, z_backC_log, z_backC_fin, z_backC_stand, z_backC_over, z_backC_held, z_backC_M, z_backC_cond, z_backC_pos, z_backC_came, z_backC_kept, z_backC_kEnd, z_backC_kSum, z_backC_kRows, z_backC_fails, z_backC_taken, z_backC_acks]; exact w.ackn), (by simp only [z_backC_N, z_backC_C, z_backC_fr, z_backC_to, z_backC_tol, z_backC_sum, z_backC_rows, z_backC_ended, z_backC_latest, z_backC_q, z_backC_log, z_backC_fin, z_backC_stand, z_backC_over, z_backC_held, z_backC_M, z_backC_cond, z_backC_pos, z_backC_came, z_backC_kept, z_backC_kEnd, z_backC_kSum, z_backC_kRows, z_backC_fails, z_backC_taken, z_backC_acks]; exact w.cond), (by simp only [z_backC_N, z_backC_C, z_backC_fr, z_backC_to, z_backC_tol, z_backC_sum, z_backC_rows, z_backC_ended, z_backC_latest, z_backC_q, z_backC_log, z_backC_fin, z_backC_stand, z_backC_over, z_backC_held, z_backC_M, z_backC_cond, z_backC_pos, z_backC_came, z_backC_kept, z_backC_kEnd, z_backC_kSum, z_backC_kRows, z_backC_fails, z_backC_taken, z_backC_acks]; exact w.pos), ?_, ?_, ?_⟩
  · intro j
    rw [z_backC_q]
    show (if j < c then [] else s_q s j).length ≤ 12
    split
    · exact Nat.zero_le _
    · exact w.q j
  · intro j
    rw [z_backC_stand, z_backC_log]
    show (if j < c ∧ s_fr s j = none then s_pos s m j else s_stand s j) ≤ _
    split
    · rename_i q; exact hp j (by omega)
    · exact w.stand j
  · intro j k hk
    rw [z_backC_held] at hk
    rw [z_backC_M]
    have hk : (if j < c then none else s_held s j) = some k := hk
    split at hk
    · cases hk
    · exact w.held hk
  · intro j z hz
    rw [z_backC_q] at hz
    have hz : z ∈ (if j < c then [] else s_q s j) := hz
    split at hz
    · cases hz
    · exact w.kin hz
  · intro j z hz
    rw [z_backC_q] at hz
    rw [z_backC_M]
    have hz : z ∈ (if j < c then [] else s_q s j) := hz
    split at hz
    · cases hz
    · exact w.bar hz
  · intro j hj hf
    rw [z_backC_C] at hj
    rw [z_backC_fr] at hf
    rw [z_backC_q]
    show (if j < c then [] else s_q s j) = []
    split
    · rfl
    · exact w.src hj hf
end PI
