/-! the reference's close, give, keeper -/
theorem closeP_0 (s : zSt) (m : Nat) : closeP s m 0 = s := by
  unfold closeP
  rw [show (fun j => if j < 0 ∧ s_held s j = some m then none else s_held s j) = s_held s from funext fun j => if_neg (by omega), show (fun j => if j < 0 then (s_q s j).filter (fun z => !isB m z) else s_q s j) = s_q s from funext fun j => if_neg (by omega), uu_held, uu_q]
theorem u_held_q_held (s : zSt) (a b : Nat → Option Nat) (q : Nat → List (Nat × Int64)) : u_held (u_q (u_held s a) q) b = u_q (u_held s b) q := rfl
theorem closeP_s (s : zSt) (m c : Nat) : u_q (u_held (closeP s m c) (fu (s_held (closeP s m c)) c (if s_held s c = some m then none else s_held s c))) (fu (s_q (closeP s m c)) c ((s_q s c).filter fun z => !isB m z)) = closeP s m (c + 1) := by
  have h1 : fu (s_held (closeP s m c)) c (if s_held s c = some m then none else s_held s c) = fun j => if j < c + 1 ∧ s_held s j = some m then none else s_held s j := by
    rw [z_closeP_held]
    funext j
    show (if j = c then _ else if j < c ∧ s_held s j = some m then none else s_held s j) = _
    by_cases q : j = c
    · subst q
      rw [if_pos rfl]
      by_cases r : s_held s j = some m
      · rw [if_pos r, if_pos ⟨by omega, r⟩]
      · rw [if_neg r, if_neg (fun z => r z.2)]
    · rw [if_neg q]
      by_cases r : j < c ∧ s_held s j = some m
      · rw [if_pos r, if_pos ⟨by omega, r.2⟩]
      · rw [if_neg r, if_neg (fun z => r ⟨by omega, z.2⟩)]
  have h2 : fu (s_q (closeP s m c)) c ((s_q s c).filter fun z => !isB m z) = fun j => if j < c + 1 then (s_q s j).filter (fun z => !isB m z) else s_q s j := by
    rw [z_closeP_q]
    funext j
    show (if j = c then _ else if j < c then _ else _) = _
    by_cases q : j = c
    · subst q
      rw [if_pos rfl, if_pos (by omega)]
    · rw [if_neg q]
      by_cases r : j < c
      · rw [if_pos r, if_pos (by omega)]
      · rw [if_neg r, if_neg (by omega)]
  rw [h1, h2]
  unfold closeP
  rw [u_held_q_held, u_q_q]
theorem closeP_heldc (s : zSt) (m c : Nat) : s_held (closeP s m c) c = s_held s c := by rw [z_closeP_held]; exact if_neg (by omega)
theorem closeP_qc (s : zSt) (m c : Nat) : s_q (closeP s m c) c = s_q s c := by rw [z_closeP_q]; exact if_neg (by omega)
theorem closeP_ql (s : zSt) (m c j : Nat) : (s_q (closeP s m c) j).length ≤ (s_q s j).length := by
  rw [z_closeP_q]
  show (if j < c then _ else _ : List (Nat × Int64)).length ≤ _
  split
  · exact List.length_filter_le _ _
  · exact Nat.le_refl _
section PM
variable {e : pE} {t : pS} {s : zSt} {n : Nat}
set_option maxHeartbeats 2000000 in
theorem fR_close_34_eq (h : pRf e) {K9 : zV → Nat → Nat → Int32 → Int32 → Option zR} {c m : Nat} (hc : c < 16) (hm : m < 40) (M : Mod t s) (hq : ∀ c, (s_q s c).length ≤ 15) (hkin : ∀ z ∈ s_q s c, z.1 ≤ 2) : ∃ t', fR_close_34 K9 (pv e t) n (pL e 6 0 0) (nI m) (nI c) = K9 (pv e t') n (pL e 6 0 0) (nI m) (nI (c + 1)) ∧ Mod t' (u_q s (fu (s_q s) c ((s_q s c).filter fun z => !isB m z))) ∧ Fr6 t t' := by
  have hl := hq c
  obtain ⟨t2, h2, M2, F2⟩ := fR_close_44_eq (n := n) h (K9 := K9) hc hm (s_q s c).length t s zF M (Nat.le_refl _) hq hkin (zF_big (by omega))
  rw [dnw_len] at M2
  refine ⟨t2, ?_, M2, F2⟩
  rw [← h2]
  unfold fR_close_34
  generalize fR_close_44 K9 zF = G
  simp (disch := omega) only [rf_12 h, rg_9 h, M.r9, Option.bind_some]
set_option maxHeartbeats 2000000 in
theorem fR_close_9_eq (h : pRf e) (w : Wf s) {m : Nat} (hm : m < 40) : ∀ (d c : Nat) (t : pS) (f : Nat), c + d = s_C s → d < f → Mod t (closeP s m c) → ∃ t', fR_close_9 f (pv e t) n (pL e 6 0 0) (nI m) (nI c) = some (.inl none, pv e t', n) ∧ Mod t' (closeP s m (s_C s)) ∧ Fr6 t t' := by
  have hN1 := w.N1; have hN8 := w.N8; have hC := w.C; have hM := w.M; have hA := w.ackn
  intro d
  induction d with
  | zero =>
    intro c t f hc hf M
    obtain ⟨f, rfl⟩ : ∃ g, f = g + 1 := ⟨f - 1, by omega⟩
    obtain rfl : c = s_C s := by omega
    unfold fR_close_9
    simp (disch := first | assumption | omega | exact b2i_01 _ | exact Or.inl rfl | exact Or.inr rfl) only [rf_0 h, rf_1 h, rf_2 h, rf_3 h, rf_4 h, rf_5 h, rf_6 h, rf_7 h, rf_8 h, rf_9 h, rf_10 h, rf_11 h, rf_12 h, rf_13 h, rf_14 h, rf_15 h, rf_16 h, rf_17 h, rf_18 h, rf_19 h, rf_20 h, rf_21 h, rf_22 h, rf_23 h, rf_24 h, rf_25 h, rf_26 h, rf_27 h, rf_28 h, rf_29 h, rf_30 h, rf_31 h, rf_32 h, rf_33 h, rp_1 h, rp_2 h, rp_7 h, rp_19 h, rp_29 h, rg_1 h, rg_2 h, rg_3 h, rg_4 h, rg_5 h, rg_6 h, rg_7 h, rg_8 h, rg_9 h, rg_10 h, rg_11 h, rg_12 h, rg_13 h, rg_14 h, rg_15 h, rg_16 h, rg_17 h, rg_18 h, rg_19 h, rg_20 h, rg_21 h, rg_22 h, rg_23 h, rg_24 h, rg_25 h, rg_26 h, rg_27 h, rg_28 h, rs_1 h, rs_2 h, rs_3 h, rs_4 h, rs_5 h, rs_6 h, rs_7 h, rs_8 h, rs_9 h, rs_10 h, rs_11 h, rs_12 h, rs_13 h, rs_14 h, rs_15 h, rs_16 h, rs_17 h, rs_18 h, rs_19 h, rs_20 h, rs_21 h, rs_22 h, rs_23 h, rs_24 h, rs_25 h, rs_26 h, rs_27 h, rs_28 h, ro h, rI_uI, rI_uJ, rI_uR, rI_wI, rI_wJ, rJ_uJ, rJ_uI, rJ_uR, rJ_wI, rJ_wJ, rR_uR, rR_uI, rR_uJ, rR_wI, rR_wJ, qI_wI, qI_wJ, qI_uI, qI_uJ, qI_uR, qJ_wJ, qJ_wI, qJ_uI, qJ_uJ, qJ_uR, Option.bind_some, zcV_s, zcI_s, zcL_s, zrI, zrV, zrL, nI_mul8, nI_mul16, nI_mul200, nI_1, eq_self, Nat.reduceEqDiff, and_true, true_and, and_false, false_and, and_self, ite_true, ite_false, ↓reduceIte, Nat.add_zero, if_true, if_false, b2i_t, b2i_f, o2i_s, o2i_n, M.c_f0, M.c_f2, M.c_f7, M.c_f19, M.c_f29, M.r1, M.r2, M.r3, M.r4, M.r5, M.r6, M.r9, M.r11, M.r12, M.r13, M.r14, M.r15, M.r16, M.r17, M.r18, M.r19, M.r20, M.r21, M.r22, M.r23, M.r24, nI_leI, nI_ltI, nI_eq, nI_eq0, nI_eqm1, b2i_eq0, z_closeP_C, Nat.le_refl]
    exact ⟨t, rfl, M, Fr6.refl _⟩
  | succ d ih =>
    intro c t f hc hf M
    obtain ⟨f, rfl⟩ : ∃ g, f = g + 1 := ⟨f - 1, by omega⟩
    have q : ¬ s_C s ≤ c := by omega
    have hc16 : c < 16 := by omega
    have hql : ∀ j, (s_q (closeP s m c) j).length ≤ 15 := fun j => by
      have := closeP_ql s m c j
      have := w.q j
      omega
    have hqc := closeP_qc s m c
    have hlen := w.q c
    have ih2 := fun t => ih (c + 1) t f (by omega) (by omega)
    clear ih
    have key : ∀ t1, Mod t1 (u_held (closeP s m c) (fu (s_held (closeP s m c)) c (if s_held s c = some m then none else s_held s c))) → Fr6 t t1 → ∃ t', fR_close_34 (fR_close_9 f) (pv e t1) n (pL e 6 0 0) (nI m) (nI c) = some (.inl none, pv e t', n) ∧ Mod t' (closeP s m (s_C s)) ∧ Fr6 t t' := by
      intro t1 M1 F1
      obtain ⟨t2, h2, M2, F2⟩ := fR_close_34_eq (n := n) h (K9 := fR_close_9 f) hc16 hm M1 (by rw [y_q_held]; exact hql) (by rw [y_q_held, hqc]; exact fun z hz => w.kin hz)
      rw [h2]
      rw [y_q_held, hqc, closeP_s] at M2
      obtain ⟨t3, h3, M3, F3⟩ := ih2 t2 M2
      exact ⟨t3, h3, M3, F1.trans (F2.trans F3)⟩
    unfold fR_close_9
    generalize fR_close_34 (fR_close_9 f) = G at key
    simp (disch := first | assumption | omega | exact b2i_01 _ | exact Or.inl rfl | exact Or.inr rfl) only [rf_0 h, rf_1 h, rf_2 h, rf_3 h, rf_4 h, rf_5 h, rf_6 h, rf_7 h, rf_8 h, rf_9 h, rf_10 h, rf_11 h, rf_12 h, rf_13 h, rf_14 h, rf_15 h, rf_16 h, rf_17 h, rf_18 h, rf_19 h, rf_20 h, rf_21 h, rf_22 h, rf_23 h, rf_24 h, rf_25 h, rf_26 h, rf_27 h, rf_28 h, rf_29 h, rf_30 h, rf_31 h, rf_32 h, rf_33 h, rp_1 h, rp_2 h, rp_7 h, rp_19 h, rp_29 h, rg_1 h, rg_2 h, rg_3 h, rg_4 h, rg_5 h, rg_6 h, rg_7 h, rg_8 h, rg_9 h, rg_10 h, rg_11 h, rg_12 h, rg_13 h, rg_14 h, rg_15 h, rg_16 h, rg_17 h, rg_18 h, rg_19 h, rg_20 h, rg_21 h, rg_22 h, rg_23 h, rg_24 h, rg_25 h, rg_26 h, rg_27 h, rg_28 h, rs_1 h, rs_2 h, rs_3 h, rs_4 h, rs_5 h, rs_6 h, rs_7 h, rs_8 h, rs_9 h, rs_10 h, rs_11 h, rs_12 h, rs_13 h, rs_14 h, rs_15 h, rs_16 h, rs_17 h, rs_18 h, rs_19 h, rs_20 h, rs_21 h, rs_22 h, rs_23 h, rs_24 h, rs_25 h, rs_26 h, rs_27 h, rs_28 h, ro h, rI_uI, rI_uJ, rI_uR, rI_wI, rI_wJ, rJ_uJ, rJ_uI, rJ_uR, rJ_wI, rJ_wJ, rR_uR, rR_uI, rR_uJ, rR_wI, rR_wJ, qI_wI, qI_wJ, qI_uI, qI_uJ, qI_uR, qJ_wJ, qJ_wI, qJ_uI, qJ_uJ, qJ_uR, Option.bind_some, zcV_s, zcI_s, zcL_s, zrI, zrV, zrL, nI_mul8, nI_mul16, nI_mul200, nI_1, eq_self, Nat.reduceEqDiff, and_true, true_and, and_false, false_and, and_self, ite_true, ite_false, ↓reduceIte, Nat.add_zero, if_true, if_false, b2i_t, b2i_f, o2i_s, o2i_n, M.c_f0, M.c_f2, M.c_f7, M.c_f19, M.c_f29, M.r1, M.r2, M.r3, M.r4, M.r5, M.r6, M.r9, M.r11, M.r12, M.r13, M.r14, M.r15, M.r16, M.r17, M.r18, M.r19, M.r20, M.r21, M.r22, M.r23, M.r24, nI_leI, nI_ltI, nI_eq, nI_eq0, nI_eqm1, b2i_eq0, z_closeP_C, q, closeP_heldc, o2i_eq (held_b w c), upd_fu]
    by_cases hq : s_held s c = some m
    · rw [if_pos hq]
      refine key _ ?_ (Fr6.uI (Fr6.refl _))
      rw [if_pos hq]
      exact M.v_held (hI_fu o2i M.c_r15 rfl)
    · rw [if_neg hq]
      refine key t ?_ (Fr6.refl _)
      rw [if_neg hq, ← closeP_heldc s m c, fu_id, uu_held]
      exact M
theorem closeS_P (s : zSt) (m how : Nat) : closeP (u_cond s (fu (s_cond s) m how)) m (s_C s) = closeS s m how := by
  unfold closeP closeS isB
  rw [y_held_cond, y_q_cond]
theorem Wf.close (w : Wf s) {m how : Nat} (hh : how ≤ 2) : Wf (closeS s m how) := by
  refine ⟨(by simp only [z_closeS_N, z_closeS_C, z_closeS_fr, z_closeS_to, z_closeS_tol, z_closeS_sum, z_closeS_rows, z_closeS_ended, z_closeS_latest, z_closeS_q, z_closeS_log, z_closeS_fin, z_closeS_stand, z_closeS_over, z_closeS_held, z_closeS_M, z_closeS_cond, z_closeS_pos, z_closeS_came, z_closeS_kept, z_closeS_kEnd, z_closeS_kSum, z_closeS_kRows, z_closeS_fails, z_closeS_taken, z_closeS_acks]; exact w.N1), (by simp only [z_closeS_N, z_closeS_C, z_closeS_fr, z_closeS_to, z_closeS_tol, z_closeS_sum, z_closeS_rows, z_closeS_ended, z_closeS_latest, z_closeS_q, z_closeS_log, z_closeS_fin, z_closeS_stand, z_closeS_over, z_closeS_held, z_closeS_M, z_closeS_cond, z_closeS_pos, z_closeS_came, z_closeS_kept, z_closeS_kEnd, z_closeS_kSum, z_closeS_kRows, z_closeS_fails, z_closeS_taken, z_closeS_acks]; exact w.N8), (by simp only [z_closeS_N, z_closeS_C, z_closeS_fr, z_closeS_to, z_closeS_tol, z_closeS_sum, z_closeS_rows, z_closeS_ended, z_closeS_latest, z_closeS_q, z_closeS_log, z_closeS_fin, z_closeS_stand, z_closeS_over, z_closeS_held, z_closeS_M, z_closeS_cond, z_closeS_pos, z_closeS_came, z_closeS_kept, z_closeS_kEnd, z_closeS_kSum, z_closeS_kRows, z_closeS_fails, z_closeS_taken, z_closeS_acks]; exact w.C), (by simp only [z_closeS_N, z_closeS_C, z_closeS_fr, z_closeS_to, z_closeS_tol, z_closeS_sum, z_closeS_rows, z_closeS_ended, z_closeS_latest, z_closeS_q, z_closeS_log, z_closeS_fin, z_closeS_stand, z_closeS_over, z_closeS_held, z_closeS_M, z_closeS_cond, z_closeS_pos, z_closeS_came, z_closeS_kept, z_closeS_kEnd, z_closeS_kSum, z_closeS_kRows, z_closeS_fails, z_closeS_taken, z_closeS_acks]; exact w.M), (by simp only [z_closeS_N, z_closeS_C, z_closeS_fr, z_closeS_to, z_closeS_tol, z_closeS_sum, z_closeS_rows, z_closeS_ended, z_closeS_latest, z_closeS_q, z_closeS_log, z_closeS_fin, z_closeS_stand, z_closeS_over, z_closeS_held, z_closeS_M, z_closeS_cond, z_closeS_pos, z_closeS_came, z_closeS_kept, z_closeS_kEnd, z_closeS_kSum, z_closeS_kRows, z_closeS_fails, z_closeS_taken, z_closeS_acks]; exact fun c => w.to), (by simp only [z_closeS_N, z_closeS_C, z_closeS_fr, z_closeS_to, z_closeS_tol, z_closeS_sum, z_closeS_rows, z_closeS_ended, z_closeS_latest, z_closeS_q, z_closeS_log, z_closeS_fin, z_closeS_stand, z_closeS_over, z_closeS_held, z_closeS_M, z_closeS_cond, z_closeS_pos, z_closeS_came, z_closeS_kept, z_closeS_kEnd, z_closeS_kSum, z_closeS_kRows, z_closeS_fails, z_closeS_taken, z_closeS_acks]; exact fun c k => w.fr), ?_, (by simp only [z_closeS_N, z_closeS_C, z_closeS_fr, z_closeS_to, z_closeS_tol, z_closeS_sum, z_closeS_rows, z_closeS_ended, z_closeS_latest, z_closeS_q, z_closeS_log, z_closeS_fin, z_closeS_stand, z_closeS_over, z_closeS_held, z_closeS_M, z_closeS_cond, z_closeS_pos, z_closeS_came, z_closeS_kept, z_closeS_kEnd, z_closeS_kSum, z_closeS_kRows, z_closeS_fails, z_closeS_taken, z_closeS_acks]; exact w.log), (by simp only [z_closeS_N, z_closeS_C, z_closeS_fr, z_closeS_to, z_closeS_tol, z_closeS_sum, z_closeS_rows, z_closeS_ended, z_closeS_latest, z_closeS_q, z_closeS_log, z_closeS_fin, z_closeS_stand, z_closeS_over, z_closeS_held, z_closeS_M, z_closeS_cond, z_closeS_pos, z_closeS_came, z_closeS_kept, z_closeS_kEnd, z_closeS_kSum, z_closeS_kRows, z_closeS_fails, z_closeS_taken, z_closeS_acks]; exact w.stand), ?_, (by simp only [z_closeS_N, z_closeS_C, z_closeS_fr, z_closeS_to, z_closeS_tol, z_closeS_sum, z_closeS_rows, z_closeS_ended, z_closeS_latest, z_closeS_q, z_closeS_log, z_closeS_fin, z_closeS_stand, z_closeS_over, z_closeS_held, z_closeS_M, z_closeS_cond, z_closeS_pos, z_closeS_came, z_closeS_kept, z_closeS_kEnd, z_closeS_kSum, z_closeS_kRows, z_closeS_fails, z_closeS_taken, z_closeS_acks]; exact fun x k => w.latest), (by simp only [z_closeS_N, z_closeS_C, z_closeS_fr, z_closeS_to, z_closeS_tol, z_closeS_sum, z_closeS_rows, z_closeS_ended, z_closeS_latest, z_closeS_q, z_closeS_log, z_closeS_fin, z_closeS_stand, z_closeS_over, z_closeS_held, z_closeS_M, z_closeS_cond, z_closeS_pos, z_closeS_came, z_closeS_kept, z_closeS_kEnd, z_closeS_kSum, z_closeS_kRows, z_closeS_fails, z_closeS_taken, z_closeS_acks]; exact fun z => w.acks), (by simp only [z_closeS_N, z_closeS_C, z_closeS_fr, z_closeS_to, z_closeS_tol, z_closeS_sum, z_closeS_rows, z_closeS_ended, z_closeS_latest, z_closeS_q, z_closeS_log, z_closeS_fin, z_closeS_stand, z_closeS_over, z_closeS_held, z_closeS_M, z_closeS_cond, z_closeS_pos, z_closeS_came, z_closeS_kept, z_closeS_kEnd, z_closeS_kSum, z_closeS_kRows, z_closeS_fails, z_closeS_taken, z_closeS_acks]; exact w.ackn), ?_, (by simp only [z_closeS_N, z_closeS_C, z_closeS_fr, z_closeS_to, z_closeS_tol, z_closeS_sum, z_closeS_rows, z_closeS_ended, z_closeS_latest, z_closeS_q, z_closeS_log, z_closeS_fin, z_closeS_stand, z_closeS_over, z_closeS_held, z_closeS_M, z_closeS_cond, z_closeS_pos, z_closeS_came, z_closeS_kept, z_closeS_kEnd, z_closeS_kSum, z_closeS_kRows, z_closeS_fails, z_closeS_taken, z_closeS_acks]; exact w.pos), ?_, ?_, ?_⟩
  · intro c
    rw [z_closeS_q]
    show (if c < s_C s then (s_q s c).filter _ else s_q s c).length ≤ 12
    have := w.q c
    split
    · exact Nat.le_trans (List.length_filter_le _ _) this
    · exact this
  · intro c k hk
    rw [z_closeS_held] at hk
    rw [z_closeS_M]
    refine w.held (c := c) (k := k) ?_
    have hk : (if c < s_C s ∧ s_held s c = some m then none else s_held s c) = some k := hk
    split at hk
    · cases hk
    · exact hk
  · intro x
    rw [z_closeS_cond]
    show (if x = m then how else s_cond s x) ≤ 2
    have := w.cond x
    split <;> omega
  · intro c z hz
    rw [z_closeS_q] at hz
    refine w.kin (c := c) ?_
    have hz : z ∈ (if c < s_C s then (s_q s c).filter _ else s_q s c) := hz
    split at hz
    · exact (List.mem_filter.mp hz).1
    · exact hz
  · intro c z hz
    rw [z_closeS_q] at hz
    rw [z_closeS_M]
    refine w.bar (c := c) ?_
    have hz : z ∈ (if c < s_C s then (s_q s c).filter _ else s_q s c) := hz
    split at hz
    · exact (List.mem_filter.mp hz).1
    · exact hz
  · intro c hc hf
    rw [z_closeS_C] at hc
    rw [z_closeS_fr] at hf
    rw [z_closeS_q]
    show (if c < s_C s then (s_q s c).filter _ else s_q s c) = []
    rw [if_pos hc, w.src hc hf]
    rfl
theorem Wf.ucond (w : Wf s) {m how : Nat} (hh : how ≤ 2) : Wf (u_cond s (fu (s_cond s) m how)) := by
  refine ⟨(by simp only [y_N_cond, y_C_cond, y_fr_cond, y_to_cond, y_tol_cond, y_sum_cond, y_rows_cond, y_ended_cond, y_latest_cond, y_q_cond, y_log_cond, y_fin_cond, y_stand_cond, y_over_cond, y_held_cond, y_M_cond, y_pos_cond, y_came_cond, y_kept_cond, y_kEnd_cond, y_kSum_cond, y_kRows_cond, y_fails_cond, y_taken_cond, y_acks_cond, su_cond]; exact w.N1), (by simp only [y_N_cond, y_C_cond, y_fr_cond, y_to_cond, y_tol_cond, y_sum_cond, y_rows_cond, y_ended_cond, y_latest_cond, y_q_cond, y_log_cond, y_fin_cond, y_stand_cond, y_over_cond, y_held_cond, y_M_cond, y_pos_cond, y_came_cond, y_kept_cond, y_kEnd_cond, y_kSum_cond, y_kRows_cond, y_fails_cond, y_taken_cond, y_acks_cond, su_cond]; exact w.N8), (by simp only [y_N_cond, y_C_cond, y_fr_cond, y_to_cond, y_tol_cond, y_sum_cond, y_rows_cond, y_ended_cond, y_latest_cond, y_q_cond, y_log_cond, y_fin_cond, y_stand_cond, y_over_cond, y_held_cond, y_M_cond, y_pos_cond, y_came_cond, y_kept_cond, y_kEnd_cond, y_kSum_cond, y_kRows_cond, y_fails_cond, y_taken_cond, y_acks_cond, su_cond]; exact w.C), (by simp only [y_N_cond, y_C_cond, y_fr_cond, y_to_cond, y_tol_cond, y_sum_cond, y_rows_cond, y_ended_cond, y_latest_cond, y_q_cond, y_log_cond, y_fin_cond, y_stand_cond, y_over_cond, y_held_cond, y_M_cond, y_pos_cond, y_came_cond, y_kept_cond, y_kEnd_cond, y_kSum_cond, y_kRows_cond, y_fails_cond, y_taken_cond, y_acks_cond, su_cond]; exact w.M), (by simp only [y_N_cond, y_C_cond, y_fr_cond, y_to_cond, y_tol_cond, y_sum_cond, y_rows_cond, y_ended_cond, y_latest_cond, y_q_cond, y_log_cond, y_fin_cond, y_stand_cond, y_over_cond, y_held_cond, y_M_cond, y_pos_cond, y_came_cond, y_kept_cond, y_kEnd_cond, y_kSum_cond, y_kRows_cond, y_fails_cond, y_taken_cond, y_acks_cond, su_cond]; exact fun c => w.to), (by simp only [y_N_cond, y_C_cond, y_fr_cond, y_to_cond, y_tol_cond, y_sum_cond, y_rows_cond, y_ended_cond, y_latest_cond, y_q_cond, y_log_cond, y_fin_cond, y_stand_cond, y_over_cond, y_held_cond, y_M_cond, y_pos_cond, y_came_cond, y_kept_cond, y_kEnd_cond, y_kSum_cond, y_kRows_cond, y_fails_cond, y_taken_cond, y_acks_cond, su_cond]; exact fun c k => w.fr), (by simp only [y_N_cond, y_C_cond, y_fr_cond, y_to_cond, y_tol_cond, y_sum_cond, y_rows_cond, y_ended_cond, y_latest_cond, y_q_cond, y_log_cond, y_fin_cond, y_stand_cond, y_over_cond, y_held_cond, y_M_cond, y_pos_cond, y_came_cond, y_kept_cond, y_kEnd_cond, y_kSum_cond, y_kRows_cond, y_fails_cond, y_taken_cond, y_acks_cond, su_cond]; exact w.q), (by simp only [y_N_cond, y_C_cond, y_fr_cond, y_to_cond, y_tol_cond, y_sum_cond, y_rows_cond, y_ended_cond, y_latest_cond, y_q_cond, y_log_cond, y_fin_cond, y_stand_cond, y_over_cond, y_held_cond, y_M_cond, y_pos_cond, y_came_cond, y_kept_cond, y_kEnd_cond, y_kSum_cond, y_kRows_cond, y_fails_cond, y_taken_cond, y_acks_cond, su_cond]; exact w.log), (by simp only [y_N_cond, y_C_cond, y_fr_cond, y_to_cond, y_tol_cond, y_sum_cond, y_rows_cond, y_ended_cond, y_latest_cond, y_q_cond, y_log_cond, y_fin_cond, y_stand_cond, y_over_cond, y_held_cond, y_M_cond, y_pos_cond, y_came_cond, y_kept_cond, y_kEnd_cond, y_kSum_cond, y_kRows_cond, y_fails_cond, y_taken_cond, y_acks_cond, su_cond]; exact w.stand), (by simp only [y_N_cond, y_C_cond, y_fr_cond, y_to_cond, y_tol_cond, y_sum_cond, y_rows_cond, y_ended_cond, y_latest_cond, y_q_cond, y_log_cond, y_fin_cond, y_stand_cond, y_over_cond, y_held_cond, y_M_cond, y_pos_cond, y_came_cond, y_kept_cond, y_kEnd_cond, y_kSum_cond, y_kRows_cond, y_fails_cond, y_taken_cond, y_acks_cond, su_cond]; exact fun c k => w.held), (by simp only [y_N_cond, y_C_cond, y_fr_cond, y_to_cond, y_tol_cond, y_sum_cond, y_rows_cond, y_ended_cond, y_latest_cond, y_q_cond, y_log_cond, y_fin_cond, y_stand_cond, y_over_cond, y_held_cond, y_M_cond, y_pos_cond, y_came_cond, y_kept_cond, y_kEnd_cond, y_kSum_cond, y_kRows_cond, y_fails_cond, y_taken_cond, y_acks_cond, su_cond]; exact fun x k => w.latest), (by simp only [y_N_cond, y_C_cond, y_fr_cond, y_to_cond, y_tol_cond, y_sum_cond, y_rows_cond, y_ended_cond, y_latest_cond, y_q_cond, y_log_cond, y_fin_cond, y_stand_cond, y_over_cond, y_held_cond, y_M_cond, y_pos_cond, y_came_cond, y_kept_cond, y_kEnd_cond, y_kSum_cond, y_kRows_cond, y_fails_cond, y_taken_cond, y_acks_cond, su_cond]; exact fun z => w.acks), (by simp only [y_N_cond, y_C_cond, y_fr_cond, y_to_cond, y_tol_cond, y_sum_cond, y_rows_cond, y_ended_cond, y_latest_cond, y_q_cond, y_log_cond, y_fin_cond, y_stand_cond, y_over_cond, y_held_cond, y_M_cond, y_pos_cond, y_came_cond, y_kept_cond, y_kEnd_cond, y_kSum_cond, y_kRows_cond, y_fails_cond, y_taken_cond, y_acks_cond, su_cond]; exact w.ackn), ?_, (by simp only [y_N_cond, y_C_cond, y_fr_cond, y_to_cond, y_tol_cond, y_sum_cond, y_rows_cond, y_ended_cond, y_latest_cond, y_q_cond, y_log_cond, y_fin_cond, y_stand_cond, y_over_cond, y_held_cond, y_M_cond, y_pos_cond, y_came_cond, y_kept_cond, y_kEnd_cond, y_kSum_cond, y_kRows_cond, y_fails_cond, y_taken_cond, y_acks_cond, su_cond]; exact w.pos), (by simp only [y_N_cond, y_C_cond, y_fr_cond, y_to_cond, y_tol_cond, y_sum_cond, y_rows_cond, y_ended_cond, y_latest_cond, y_q_cond, y_log_cond, y_fin_cond, y_stand_cond, y_over_cond, y_held_cond, y_M_cond, y_pos_cond, y_came_cond, y_kept_cond, y_kEnd_cond, y_kSum_cond, y_kRows_cond, y_fails_cond, y_taken_cond, y_acks_cond, su_cond]; exact fun c z => w.kin), (by simp only [y_N_cond, y_C_cond, y_fr_cond, y_to_cond, y_tol_cond, y_sum_cond, y_rows_cond, y_ended_cond, y_latest_cond, y_q_cond, y_log_cond, y_fin_cond, y_stand_cond, y_over_cond, y_held_cond, y_M_cond, y_pos_cond, y_came_cond, y_kept_cond, y_kEnd_cond, y_kSum_cond, y_kRows_cond, y_fails_cond, y_taken_cond, y_acks_cond, su_cond]; exact fun c z => w.bar), (by simp only [y_N_cond, y_C_cond, y_fr_cond, y_to_cond, y_tol_cond, y_sum_cond, y_rows_cond, y_ended_cond, y_latest_cond, y_q_cond, y_log_cond, y_fin_cond, y_stand_cond, y_over_cond, y_held_cond, y_M_cond, y_pos_cond, y_came_cond, y_kept_cond, y_kEnd_cond, y_kSum_cond, y_kRows_cond, y_fails_cond, y_taken_cond, y_acks_cond, su_cond]; exact fun c => w.src)⟩
  intro x
  rw [su_cond]
  show (if x = m then how else s_cond s x) ≤ 2
  have := w.cond x
  split <;> omega
set_option maxHeartbeats 2000000 in
theorem fR_close_eq (h : pRf e) (M : Mod t s) (w : Wf s) {m how : Nat} (hm : m < 40) (hh : how ≤ 2) : ∃ t', fR_close (pv e t) n (pL e 6 0 0) (nI m) (nI how) = some (.inl none, pv e t', n) ∧ Mod t' (closeS s m how) ∧ Fr6 t t' := by
  unfold fR_close
  simp (disch := first | assumption | omega | exact b2i_01 _ | exact Or.inl rfl | exact Or.inr rfl) only [rf_0 h, rf_1 h, rf_2 h, rf_3 h, rf_4 h, rf_5 h, rf_6 h, rf_7 h, rf_8 h, rf_9 h, rf_10 h, rf_11 h, rf_12 h, rf_13 h, rf_14 h, rf_15 h, rf_16 h, rf_17 h, rf_18 h, rf_19 h, rf_20 h, rf_21 h, rf_22 h, rf_23 h, rf_24 h, rf_25 h, rf_26 h, rf_27 h, rf_28 h, rf_29 h, rf_30 h, rf_31 h, rf_32 h, rf_33 h, rp_1 h, rp_2 h, rp_7 h, rp_19 h, rp_29 h, rg_1 h, rg_2 h, rg_3 h, rg_4 h, rg_5 h, rg_6 h, rg_7 h, rg_8 h, rg_9 h, rg_10 h, rg_11 h, rg_12 h, rg_13 h, rg_14 h, rg_15 h, rg_16 h, rg_17 h, rg_18 h, rg_19 h, rg_20 h, rg_21 h, rg_22 h, rg_23 h, rg_24 h, rg_25 h, rg_26 h, rg_27 h, rg_28 h, rs_1 h, rs_2 h, rs_3 h, rs_4 h, rs_5 h, rs_6 h, rs_7 h, rs_8 h, rs_9 h, rs_10 h, rs_11 h, rs_12 h, rs_13 h, rs_14 h, rs_15 h, rs_16 h, rs_17 h, rs_18 h, rs_19 h, rs_20 h, rs_21 h, rs_22 h, rs_23 h, rs_24 h, rs_25 h, rs_26 h, rs_27 h, rs_28 h, ro h, rI_uI, rI_uJ, rI_uR, rI_wI, rI_wJ, rJ_uJ, rJ_uI, rJ_uR, rJ_wI, rJ_wJ, rR_uR, rR_uI, rR_uJ, rR_wI, rR_wJ, qI_wI, qI_wJ, qI_uI, qI_uJ, qI_uR, qJ_wJ, qJ_wI, qJ_uI, qJ_uJ, qJ_uR, Option.bind_some, zcV_s, zcI_s, zcL_s, zrI, zrV, zrL, nI_mul8, nI_mul16, nI_mul200, nI_1, eq_self, Nat.reduceEqDiff, and_true, true_and, and_false, false_and, and_self, ite_true, ite_false, ↓reduceIte, Nat.add_zero, if_true, if_false, b2i_t, b2i_f, o2i_s, o2i_n, M.c_f0, M.c_f2, M.c_f7, M.c_f19, M.c_f29, M.r1, M.r2, M.r3, M.r4, M.r5, M.r6, M.r9, M.r11, M.r12, M.r13, M.r14, M.r15, M.r16, M.r17, M.r18, M.r19, M.r20, M.r21, M.r22, M.r23, M.r24, nI_leI, nI_ltI, nI_eq, nI_eq0, nI_eqm1, b2i_eq0, upd_fu]
  have M1 := M.v_cond (hI_len M.c_r16 m how)
  obtain ⟨t2, h2, M2, F2⟩ := fR_close_9_eq (n := n) h (w.ucond (m := m) hh) hm (s_C s) 0 _ zF (by rw [y_C_cond, Nat.zero_add]) (zF_big (by have := w.C; omega)) (by rw [closeP_0]; exact M1)
  rw [y_C_cond, closeS_P] at M2
  exact ⟨t2, h2, M2, (Fr6.uI (Fr6.refl _)).trans F2⟩
theorem giveP_s (s : zSt) (x k : Nat) (v : Int64) (c : Nat) (h : s_fr s c = some x) : u_q (giveP s x k v c) (fu (s_q (giveP s x k v c)) c (s_q s c ++ [(k, v)])) = giveP s x k v (c + 1) := by
  have : fu (s_q (giveP s x k v c)) c (s_q s c ++ [(k, v)]) = fun j => if j < c + 1 ∧ s_fr s j = some x then s_q s j ++ [(k, v)] else s_q s j := by
    rw [z_giveP_q]
    funext j
    show (if j = c then _ else if j < c ∧ s_fr s j = some x then _ else _) = _
    by_cases q : j = c
    · subst q
      rw [if_pos rfl, if_pos ⟨by omega, h⟩]
    · rw [if_neg q]
      by_cases r : j < c ∧ s_fr s j = some x
      · rw [if_pos r, if_pos ⟨by omega, r.2⟩]
      · rw [if_neg r, if_neg (fun z => r ⟨by omega, z.2⟩)]
  rw [this]
  unfold giveP
  rw [u_q_q]
theorem giveP_n (s : zSt) (x k : Nat) (v : Int64) (c : Nat) (h : ¬ s_fr s c = some x) : giveP s x k v c = giveP s x k v (c + 1) := by
  unfold giveP
  congr 1
  funext j
  by_cases r : j < c ∧ s_fr s j = some x
  · rw [if_pos r, if_pos ⟨by omega, r.2⟩]
  · rw [if_neg r, if_neg (fun z => r ⟨by have : j ≠ c := fun y => h (y ▸ z.2); omega, z.2⟩)]
theorem giveP_qc (s : zSt) (x k : Nat) (v : Int64) (c : Nat) : s_q (giveP s x k v c) c = s_q s c := by rw [z_giveP_q]; exact if_neg (by omega)
theorem giveP_ql (s : zSt) (x k : Nat) (v : Int64) (c j : Nat) : (s_q (giveP s x k v c) j).length ≤ (s_q s j).length + 1 := by
  rw [z_giveP_q]
  show (if j < c ∧ _ then _ else _ : List (Nat × Int64)).length ≤ _
  split
  · rw [List.length_append]; exact Nat.le_refl _
  · omega
set_option maxHeartbeats 2000000 in
theorem fR_give_3_eq (h : pRf e) (w : Wf s) {x k : Nat} (hx : x < 8) (v : Int64) : ∀ (d c : Nat) (t : pS) (f : Nat), c + d = s_C s → d < f → Mod t (giveP s x k v c) → ∃ t', fR_give_3 f (pv e t) n (pL e 6 0 0) (nI x) (nI k) v (nI c) = some (.inl none, pv e t', n) ∧ Mod t' (giveP s x k v (s_C s)) ∧ Fr6 t t' := by
  have hN1 := w.N1; have hN8 := w.N8; have hC := w.C; have hM := w.M; have hA := w.ackn
  intro d
  induction d with
  | zero =>
    intro c t f hc hf M
    obtain ⟨f, rfl⟩ : ∃ g, f = g + 1 := ⟨f - 1, by omega⟩
    obtain rfl : c = s_C s := by omega
    unfold fR_give_3
    simp (disch := first | assumption | omega | exact b2i_01 _ | exact Or.inl rfl | exact Or.inr rfl) only [rf_0 h, rf_1 h, rf_2 h, rf_3 h, rf_4 h, rf_5 h, rf_6 h, rf_7 h, rf_8 h, rf_9 h, rf_10 h, rf_11 h, rf_12 h, rf_13 h, rf_14 h, rf_15 h, rf_16 h, rf_17 h, rf_18 h, rf_19 h, rf_20 h, rf_21 h, rf_22 h, rf_23 h, rf_24 h, rf_25 h, rf_26 h, rf_27 h, rf_28 h, rf_29 h, rf_30 h, rf_31 h, rf_32 h, rf_33 h, rp_1 h, rp_2 h, rp_7 h, rp_19 h, rp_29 h, rg_1 h, rg_2 h, rg_3 h, rg_4 h, rg_5 h, rg_6 h, rg_7 h, rg_8 h, rg_9 h, rg_10 h, rg_11 h, rg_12 h, rg_13 h, rg_14 h, rg_15 h, rg_16 h, rg_17 h, rg_18 h, rg_19 h, rg_20 h, rg_21 h, rg_22 h, rg_23 h, rg_24 h, rg_25 h, rg_26 h, rg_27 h, rg_28 h, rs_1 h, rs_2 h, rs_3 h, rs_4 h, rs_5 h, rs_6 h, rs_7 h, rs_8 h, rs_9 h, rs_10 h, rs_11 h, rs_12 h, rs_13 h, rs_14 h, rs_15 h, rs_16 h, rs_17 h, rs_18 h, rs_19 h, rs_20 h, rs_21 h, rs_22 h, rs_23 h, rs_24 h, rs_25 h, rs_26 h, rs_27 h, rs_28 h, ro h, rI_uI, rI_uJ, rI_uR, rI_wI, rI_wJ, rJ_uJ, rJ_uI, rJ_uR, rJ_wI, rJ_wJ, rR_uR, rR_uI, rR_uJ, rR_wI, rR_wJ, qI_wI, qI_wJ, qI_uI, qI_uJ, qI_uR, qJ_wJ, qJ_wI, qJ_uI, qJ_uJ, qJ_uR, Option.bind_some, zcV_s, zcI_s, zcL_s, zrI, zrV, zrL, nI_mul8, nI_mul16, nI_mul200, nI_1, eq_self, Nat.reduceEqDiff, and_true, true_and, and_false, false_and, and_self, ite_true, ite_false, ↓reduceIte, Nat.add_zero, if_true, if_false, b2i_t, b2i_f, o2i_s, o2i_n, M.c_f0, M.c_f2, M.c_f7, M.c_f19, M.c_f29, M.r1, M.r2, M.r3, M.r4, M.r5, M.r6, M.r9, M.r11, M.r12, M.r13, M.r14, M.r15, M.r16, M.r17, M.r18, M.r19, M.r20, M.r21, M.r22, M.r23, M.r24, nI_leI, nI_ltI, nI_eq, nI_eq0, nI_eqm1, b2i_eq0, z_giveP_C, Nat.le_refl]
    exact ⟨t, rfl, M, Fr6.refl _⟩
  | succ d ih =>
    intro c t f hc hf M
    obtain ⟨f, rfl⟩ : ∃ g, f = g + 1 := ⟨f - 1, by omega⟩
    have q : ¬ s_C s ≤ c := by omega
    have hlen := w.q c
    have hqc := giveP_qc s x k v c
    have hql : ∀ j, (s_q (giveP s x k v c) j).length ≤ 13 := fun j => by
      have := giveP_ql s x k v c j
      have := w.q j
      omega
    unfold fR_give_3 fR_give_75
    have hCC : s_C (giveP s x k v c) = s_C s := z_giveP_C _ _ _ _ _
    simp (disch := first | assumption | omega | exact b2i_01 _ | exact Or.inl rfl | exact Or.inr rfl) only [rf_0 h, rf_1 h, rf_2 h, rf_3 h, rf_4 h, rf_5 h, rf_6 h, rf_7 h, rf_8 h, rf_9 h, rf_10 h, rf_11 h, rf_12 h, rf_13 h, rf_14 h, rf_15 h, rf_16 h, rf_17 h, rf_18 h, rf_19 h, rf_20 h, rf_21 h, rf_22 h, rf_23 h, rf_24 h, rf_25 h, rf_26 h, rf_27 h, rf_28 h, rf_29 h, rf_30 h, rf_31 h, rf_32 h, rf_33 h, rp_1 h, rp_2 h, rp_7 h, rp_19 h, rp_29 h, rg_1 h, rg_2 h, rg_3 h, rg_4 h, rg_5 h, rg_6 h, rg_7 h, rg_8 h, rg_9 h, rg_10 h, rg_11 h, rg_12 h, rg_13 h, rg_14 h, rg_15 h, rg_16 h, rg_17 h, rg_18 h, rg_19 h, rg_20 h, rg_21 h, rg_22 h, rg_23 h, rg_24 h, rg_25 h, rg_26 h, rg_27 h, rg_28 h, rs_1 h, rs_2 h, rs_3 h, rs_4 h, rs_5 h, rs_6 h, rs_7 h, rs_8 h, rs_9 h, rs_10 h, rs_11 h, rs_12 h, rs_13 h, rs_14 h, rs_15 h, rs_16 h, rs_17 h, rs_18 h, rs_19 h, rs_20 h, rs_21 h, rs_22 h, rs_23 h, rs_24 h, rs_25 h, rs_26 h, rs_27 h, rs_28 h, ro h, rI_uI, rI_uJ, rI_uR, rI_wI, rI_wJ, rJ_uJ, rJ_uI, rJ_uR, rJ_wI, rJ_wJ, rR_uR, rR_uI, rR_uJ, rR_wI, rR_wJ, qI_wI, qI_wJ, qI_uI, qI_uJ, qI_uR, qJ_wJ, qJ_wI, qJ_uI, qJ_uJ, qJ_uR, Option.bind_some, zcV_s, zcI_s, zcL_s, zrI, zrV, zrL, nI_mul8, nI_mul16, nI_mul200, nI_1, eq_self, Nat.reduceEqDiff, and_true, true_and, and_false, false_and, and_self, ite_true, ite_false, ↓reduceIte, Nat.add_zero, if_true, if_false, b2i_t, b2i_f, o2i_s, o2i_n, M.c_f0, M.c_f2, M.c_f7, M.c_f19, M.c_f29, M.r1, M.r2, M.r3, M.r4, M.r5, M.r6, M.r9, M.r11, M.r12, M.r13, M.r14, M.r15, M.r16, M.r17, M.r18, M.r19, M.r20, M.r21, M.r22, M.r23, M.r24, nI_leI, nI_ltI, nI_eq, nI_eq0, nI_eqm1, b2i_eq0, z_giveP_C, z_giveP_fr, q, o2i_eq (fr_b w (show c < s_C s by omega)), upd_fu, updL_fu, hqc]
    by_cases hq : s_fr s c = some x
    · rw [if_pos hq]
      have M1 : Mod (uI (uJ (uI t 6 0 7 (fu (rI t 6 0 7) (16 * c + (s_q s c).length) (nI k))) 6 0 8 (fu (rJ t 6 0 8) (16 * c + (s_q s c).length) v)) 6 0 9 (fu (rI t 6 0 9) c (nI ((s_q s c).length + 1)))) (giveP s x k v (c + 1)) := by
        rw [← giveP_s s x k v c hq]
        refine M.v_q ?_ ?_ ?_
        · intro c' hc'
          by_cases q : c' = c
          · rw [q, fu_self]
            have := M.c_q7 c (by omega)
            rw [hqc] at this
            exact hL_snoc this rfl rfl
          · rw [fu_ne _ _ q]; exact hL_out (M.c_q7 c' hc') (by have := hql c'; omega)
        · intro c' hc'
          by_cases q : c' = c
          · rw [q, fu_self]
            have := M.c_q8 c (by omega)
            rw [hqc] at this
            exact hL_snoc this rfl rfl
          · rw [fu_ne _ _ q]; exact hL_out (M.c_q8 c' hc') (by have := hql c'; omega)
        · exact hI_fu (fun l : List (Nat × Int64) => nI l.length) M.c_r9 (by rw [List.length_append]; rfl)
      obtain ⟨t3, h3, M3, F3⟩ := ih (c + 1) _ f (by omega) (by omega) M1
      exact ⟨t3, h3, M3, (Fr6.uI (Fr6.uJ (Fr6.uI (Fr6.refl _)))).trans F3⟩
    · rw [if_neg hq]
      rw [giveP_n s x k v c hq] at M
      exact ih (c + 1) t f (by omega) (by omega) M
theorem giveS_P (s : zSt) (x k : Nat) (v : Int64) : giveP s x k v (s_C s) = giveS s x k v := rfl
theorem fR_give_eq (h : pRf e) (M : Mod t s) (w : Wf s) {x k : Nat} (hx : x < 8) (v : Int64) : ∃ t', fR_give (pv e t) n (pL e 6 0 0) (nI x) (nI k) v = some (.inl none, pv e t', n) ∧ Mod t' (giveS s x k v) ∧ Fr6 t t' := by
  unfold fR_give
  refine fR_give_3_eq h w hx v (s_C s) 0 t zF (Nat.zero_add _) (zF_big (by have := w.C; omega)) ?_
  have : giveP s x k v 0 = s := by
    unfold giveP
    rw [show (fun j => if j < 0 ∧ s_fr s j = some x then s_q s j ++ [(k, v)] else s_q s j) = s_q s from funext fun j => if_neg (by omega), uu_q]
  rw [this]
  exact M
end PM
