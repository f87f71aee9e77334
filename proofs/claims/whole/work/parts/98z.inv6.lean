/-! the invariants are kept: restore -/
section PI
variable {s : zSt}
theorem NK_none (h : ∀ j, j < s_M s → s_cond s j ≠ 0) (x : Nat) : NKs s x = [] := List.filter_eq_nil_iff.mpr fun j hj => by
  rw [bqf (h j (List.mem_range.mp hj)), Bool.false_and]; decide
theorem due_none (h : ∀ j, j < s_M s → s_cond s j ≠ 0) (c : Nat) : dueS s c = [] := List.filter_eq_nil_iff.mpr fun j hj => by
  rw [bqf (h j (List.mem_range.mp hj)), Bool.false_and]; decide
theorem Iv.restore (h : Iv s) {m : Nat} (hm : m < s_M s) : Iv (restoreS s m) := by
  have hG := h.gu (s_M s) (Nat.le_refl _)
  have hcG := gu_cond s (s_M s)
  have eMG := gu_M s (s_M s)
  have eNG := gu_N s (s_M s)
  have eCG := gu_C s (s_M s)
  unfold restoreS
  generalize giveUpTo (s_M s) s = G at hG hcG eMG eNG eCG
  obtain ⟨w, hO, hK, hQ, hT, hF, hP, hE, hR, hH, hb⟩ := hG
  rw [← eCG, ← eNG]
  rw [← eMG] at hm hcG
  obtain ⟨B, hB⟩ : ∃ B, B = u_acks (backT G m (s_N G)) [] := ⟨_, rfl⟩
  have b1 : s_M B = s_M G := by rw [hB, y_M_acks, z_backT_M]
  have b2 : s_C B = s_C G := by rw [hB, y_C_acks, z_backT_C]
  have b3 : s_fr B = s_fr G := by rw [hB, y_fr_acks, z_backT_fr]
  have b4 : s_to B = s_to G := by rw [hB, y_to_acks, z_backT_to]
  have b5 : s_cond B = s_cond G := by rw [hB, y_cond_acks, z_backT_cond]
  have b6 : s_pos B = s_pos G := by rw [hB, y_pos_acks, z_backT_pos]
  have b7 : s_log B = s_log G := by rw [hB, y_log_acks, z_backT_log]
  have b8 : s_tol B = s_tol G := by rw [hB, y_tol_acks, z_backT_tol]
  have b9 : s_q B = s_q G ∧ s_fin B = s_fin G ∧ s_stand B = s_stand G ∧ s_over B = s_over G ∧ s_held B = s_held G := by
    rw [hB]
    exact ⟨(y_q_acks _ _).trans (z_backT_q _ _ _), (y_fin_acks _ _).trans (z_backT_fin _ _ _), (y_stand_acks _ _).trans (z_backT_stand _ _ _), (y_over_acks _ _).trans (z_backT_over _ _ _), (y_held_acks _ _).trans (z_backT_held _ _ _)⟩
  have b10 : s_kept B = s_kept G ∧ s_fails B = s_fails G ∧ s_taken B = s_taken G ∧ s_kSum B = s_kSum G ∧ s_kRows B = s_kRows G ∧ s_kEnd B = s_kEnd G ∧ s_came B = s_came G := by
    rw [hB]
    exact ⟨(y_kept_acks _ _).trans (z_backT_kept _ _ _), (y_fails_acks _ _).trans (z_backT_fails _ _ _), (y_taken_acks _ _).trans (z_backT_taken _ _ _), (y_kSum_acks _ _).trans (z_backT_kSum _ _ _), (y_kRows_acks _ _).trans (z_backT_kRows _ _ _), (y_kEnd_acks _ _).trans (z_backT_kEnd _ _ _), (y_came_acks _ _).trans (z_backT_came _ _ _)⟩
  have b11 : s_acks B = [] := by rw [hB, su_acks]
  have wB : Wf B := by rw [hB]; exact w.bT.uacks0
  rw [← hB]
  clear hB
  rw [← b2]
  obtain ⟨q1, q2, q3, q4, q5⟩ := b9
  obtain ⟨k1, k2, k3, k4, k5, k6, k7⟩ := b10
  have wR : Wf (backC B m (s_C B)) := wB.bC (fun j hj => by rw [b6, b7]; exact (hP j (by rw [← b2]; exact hj)).2.1 m hm) (Nat.le_refl _)
  have hcn : ∀ j, j < s_M (backC B m (s_C B)) → s_cond (backC B m (s_C B)) j ≠ 0 := fun j hj => by
    rw [z_backC_M, b1] at hj
    rw [z_backC_cond, b5]
    exact hcG j hj
  have hqe : ∀ c, c < s_C B → s_q (backC B m (s_C B)) c = [] := fun c hc => by rw [z_backC_q]; exact if_pos hc
  have hhe : ∀ c, c < s_C B → s_held (backC B m (s_C B)) c = none := fun c hc => by rw [z_backC_held]; exact if_pos hc
  refine ⟨wR, fun c hc he => ?_, ?_, fun c k hc hf => ?_, fun ht => ?_, ⟨fun c hc => ?_, fun m' hm' => ?_⟩, fun c hc => ?_, fun c k hc hf => ?_, ?_, fun c k hc hf => ?_, ?_⟩
  · rw [z_backC_C] at hc
    have e1 : PcS (backC B m (s_C B)) c = [] := by
      unfold PcS restS
      rw [hhe c hc, hqe c hc, due_none hcn]
      show [] ++ (bars [] ++ _) = []
      rw [List.nil_append]
      show [] ++ _ = []
      rw [List.nil_append]
      split
      · rfl
      · split
        · rfl
        · split
          · rfl
          · exact NK_none hcn _
    rw [e1, NK_none hcn]
    exact ⟨List.prefix_refl _, fun _ => rfl⟩
  · unfold IvK
    rw [z_backC_acks, b11]
    exact Nat.zero_le _
  · rw [z_backC_C] at hc
    rw [hqe c hc]
    exact Nat.zero_le _
  · rw [z_backC_tol, b8] at ht
    have := (hT ht).1
    omega
  · rw [z_backC_C] at hc
    have e1 : s_q (backC B m (s_C B)) c = s_q B c := by rw [z_backC_q]; exact if_neg (by omega)
    have e2 : s_held (backC B m (s_C B)) c = s_held B c := by rw [z_backC_held]; exact if_neg (by omega)
    have e3 : s_over (backC B m (s_C B)) c = s_over B c := by rw [z_backC_ov]; exact if_neg (by omega)
    have e4 : s_stand (backC B m (s_C B)) c = s_stand B c := by rw [z_backC_stand]; exact if_neg (fun z => by have := z.1; omega)
    rw [e1, e2, e3, e4, z_backC_log, z_backC_fin, q1, q2, q3, q4, q5, b7]
    exact hF.1 c (by rw [← b2]; exact hc)
  · rw [z_backC_M, b1] at hm'
    rw [z_backC_cond, z_backC_kept, z_backC_fails, z_backC_taken, z_backC_kSum, z_backC_kRows, z_backC_kEnd, z_backC_came, b5, k1, k2, k3, k4, k5, k6, k7]
    exact hF.2 m' hm'
  · rw [z_backC_C, b2] at hc
    rw [z_backC_M, z_backC_pos, z_backC_log, due_none hcn, b1, b6, b7]
    obtain ⟨p1, p2, p3⟩ := hP c hc
    exact ⟨p1, p2, fun j hj => by cases hj⟩
  · rw [z_backC_C] at hc
    rw [z_backC_fr] at hf
    rw [hqe c hc, z_backC_ended, z_backC_to]
    refine ⟨⟨fun z hz => by simp at hz, fun z hz => by simp at hz⟩, fun h1 h2 => ⟨rfl, ?_⟩⟩
    have e3 : s_over (backC B m (s_C B)) c = endF B c := by rw [z_backC_ov]; exact if_pos hc
    rw [e3, endF_s hf, h2, Bool.false_or] at h1
    exact h1
  · obtain ⟨r, hr⟩ := hR
    refine ⟨r, fun c k hc hf => ?_⟩
    rw [z_backC_C, b2] at hc
    rw [z_backC_fr, b3] at hf
    rw [z_backC_to, b4]
    exact hr c k hc hf
  · rw [z_backC_C, b2] at hc
    rw [z_backC_fr, b3] at hf
    have := hH c k hc hf
    unfold hasIn ins at this ⊢
    rw [z_backC_C, z_backC_to, b2, b4]
    exact this
  · unfold begunS
    rw [z_backC_M, z_backC_cond, b1, b5]
    exact hb
end PI
