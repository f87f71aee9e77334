/-! the reference's keeper and mark -/
theorem uI_wI (t : pS) (k i s k' i' s' : Nat) (a : Int32) (b : Nat → Int32) : uI (wI t k i s a) k' i' s' b = wI (uI t k' i' s' b) k i s a := rfl
theorem wI_self (t : pS) (k i s : Nat) : wI t k i s (qI t k i s) = t := by
  unfold wI qI; rw [up3_self]
theorem giveUpTo_s (k : Nat) (s : zSt) : giveUpTo (k + 1) s = if s_cond (giveUpTo k s) k = 0 then closeS (giveUpTo k s) k 2 else giveUpTo k s := rfl
theorem giveUpTo_0 (s : zSt) : giveUpTo 0 s = s := rfl
section PM
variable {e : pE} {t : pS} {s : zSt} {n : Nat}
theorem Wf.gu (w : Wf s) (k : Nat) : Wf (giveUpTo k s) := by
  induction k with
  | zero => exact w
  | succ k ih =>
    rw [giveUpTo_s]
    split
    · exact ih.close (by omega)
    · exact ih
theorem gu_M (s : zSt) (k : Nat) : s_M (giveUpTo k s) = s_M s := by
  induction k with
  | zero => rfl
  | succ k ih =>
    rw [giveUpTo_s]
    split
    · rw [z_closeS_M]; exact ih
    · exact ih
set_option maxHeartbeats 2000000 in
theorem fR_keeper_138_eq (h : pRf e) (w : Wf s) {m : Nat} (hm : m < 40) : ∀ (d c : Nat) (t : pS) (f : Nat), c + d = m → d < f → Mod t (giveUpTo c s) → ∃ t', fR_keeper_138 f (pv e t) n (pL e 6 0 0) (nI m) (nI c) = some (.inl (some (.int 8)), pv e t', n) ∧ Mod t' (giveUpTo m s) ∧ Fr6 t t' := by
  intro d
  induction d with
  | zero =>
    intro c t f hc hf M
    obtain ⟨f, rfl⟩ : ∃ g, f = g + 1 := ⟨f - 1, by omega⟩
    obtain rfl : c = m := by omega
    unfold fR_keeper_138
    simp (disch := first | assumption | omega | exact b2i_01 _ | exact Or.inl rfl | exact Or.inr rfl) only [rf_0 h, rf_1 h, rf_2 h, rf_3 h, rf_4 h, rf_5 h, rf_6 h, rf_7 h, rf_8 h, rf_9 h, rf_10 h, rf_11 h, rf_12 h, rf_13 h, rf_14 h, rf_15 h, rf_16 h, rf_17 h, rf_18 h, rf_19 h, rf_20 h, rf_21 h, rf_22 h, rf_23 h, rf_24 h, rf_25 h, rf_26 h, rf_27 h, rf_28 h, rf_29 h, rf_30 h, rf_31 h, rf_32 h, rf_33 h, rp_1 h, rp_2 h, rp_7 h, rp_19 h, rp_29 h, rg_1 h, rg_2 h, rg_3 h, rg_4 h, rg_5 h, rg_6 h, rg_7 h, rg_8 h, rg_9 h, rg_10 h, rg_11 h, rg_12 h, rg_13 h, rg_14 h, rg_15 h, rg_16 h, rg_17 h, rg_18 h, rg_19 h, rg_20 h, rg_21 h, rg_22 h, rg_23 h, rg_24 h, rg_25 h, rg_26 h, rg_27 h, rg_28 h, rs_1 h, rs_2 h, rs_3 h, rs_4 h, rs_5 h, rs_6 h, rs_7 h, rs_8 h, rs_9 h, rs_10 h, rs_11 h, rs_12 h, rs_13 h, rs_14 h, rs_15 h, rs_16 h, rs_17 h, rs_18 h, rs_19 h, rs_20 h, rs_21 h, rs_22 h, rs_23 h, rs_24 h, rs_25 h, rs_26 h, rs_27 h, rs_28 h, ro h, rI_uI, rI_uJ, rI_uR, rI_wI, rI_wJ, rJ_uJ, rJ_uI, rJ_uR, rJ_wI, rJ_wJ, rR_uR, rR_uI, rR_uJ, rR_wI, rR_wJ, qI_wI, qI_wJ, qI_uI, qI_uJ, qI_uR, qJ_wJ, qJ_wI, qJ_uI, qJ_uJ, qJ_uR, Option.bind_some, zcV_s, zcI_s, zcL_s, zrI, zrV, zrL, nI_mul8, nI_mul16, nI_mul200, nI_1, eq_self, Nat.reduceEqDiff, and_true, true_and, and_false, false_and, and_self, ite_true, ite_false, ↓reduceIte, Nat.add_zero, if_true, if_false, b2i_t, b2i_f, o2i_s, o2i_n, M.c_f0, M.c_f2, M.c_f7, M.c_f19, M.c_f29, M.r1, M.r2, M.r3, M.r4, M.r5, M.r6, M.r9, M.r11, M.r12, M.r13, M.r14, M.r15, M.r16, M.r17, M.r18, M.r19, M.r20, M.r21, M.r22, M.r23, M.r24, nI_leI, nI_ltI, nI_eq, nI_eq0, nI_eqm1, b2i_eq0, Nat.le_refl]
    exact ⟨t, rfl, M, Fr6.refl _⟩
  | succ d ih =>
    intro c t f hc hf M
    obtain ⟨f, rfl⟩ : ∃ g, f = g + 1 := ⟨f - 1, by omega⟩
    have q : ¬ m ≤ c := by omega
    have w2 := w.gu c
    have hcd := w2.cond c
    unfold fR_keeper_138 fR_keeper_158
    obtain ⟨t1, h1, M1, F1⟩ := fR_close_eq (n := n) (m := c) (how := 2) h M w2 (by omega) (by omega)
    have h1' : fR_close (pv e t) n (pL e 6 0 0) (nI c) 2 = some (.inl none, pv e t1, n) := h1
    simp (disch := first | assumption | omega | exact b2i_01 _ | exact Or.inl rfl | exact Or.inr rfl) only [rf_0 h, rf_1 h, rf_2 h, rf_3 h, rf_4 h, rf_5 h, rf_6 h, rf_7 h, rf_8 h, rf_9 h, rf_10 h, rf_11 h, rf_12 h, rf_13 h, rf_14 h, rf_15 h, rf_16 h, rf_17 h, rf_18 h, rf_19 h, rf_20 h, rf_21 h, rf_22 h, rf_23 h, rf_24 h, rf_25 h, rf_26 h, rf_27 h, rf_28 h, rf_29 h, rf_30 h, rf_31 h, rf_32 h, rf_33 h, rp_1 h, rp_2 h, rp_7 h, rp_19 h, rp_29 h, rg_1 h, rg_2 h, rg_3 h, rg_4 h, rg_5 h, rg_6 h, rg_7 h, rg_8 h, rg_9 h, rg_10 h, rg_11 h, rg_12 h, rg_13 h, rg_14 h, rg_15 h, rg_16 h, rg_17 h, rg_18 h, rg_19 h, rg_20 h, rg_21 h, rg_22 h, rg_23 h, rg_24 h, rg_25 h, rg_26 h, rg_27 h, rg_28 h, rs_1 h, rs_2 h, rs_3 h, rs_4 h, rs_5 h, rs_6 h, rs_7 h, rs_8 h, rs_9 h, rs_10 h, rs_11 h, rs_12 h, rs_13 h, rs_14 h, rs_15 h, rs_16 h, rs_17 h, rs_18 h, rs_19 h, rs_20 h, rs_21 h, rs_22 h, rs_23 h, rs_24 h, rs_25 h, rs_26 h, rs_27 h, rs_28 h, ro h, rI_uI, rI_uJ, rI_uR, rI_wI, rI_wJ, rJ_uJ, rJ_uI, rJ_uR, rJ_wI, rJ_wJ, rR_uR, rR_uI, rR_uJ, rR_wI, rR_wJ, qI_wI, qI_wJ, qI_uI, qI_uJ, qI_uR, qJ_wJ, qJ_wI, qJ_uI, qJ_uJ, qJ_uR, Option.bind_some, zcV_s, zcI_s, zcL_s, zrI, zrV, zrL, nI_mul8, nI_mul16, nI_mul200, nI_1, eq_self, Nat.reduceEqDiff, and_true, true_and, and_false, false_and, and_self, ite_true, ite_false, ↓reduceIte, Nat.add_zero, if_true, if_false, b2i_t, b2i_f, o2i_s, o2i_n, M.c_f0, M.c_f2, M.c_f7, M.c_f19, M.c_f29, M.r1, M.r2, M.r3, M.r4, M.r5, M.r6, M.r9, M.r11, M.r12, M.r13, M.r14, M.r15, M.r16, M.r17, M.r18, M.r19, M.r20, M.r21, M.r22, M.r23, M.r24, nI_leI, nI_ltI, nI_eq, nI_eq0, nI_eqm1, b2i_eq0, q, h1']
    by_cases hq : s_cond (giveUpTo c s) c = 0
    · rw [if_pos hq]
      obtain ⟨t3, h3, M3, F3⟩ := ih (c + 1) t1 f (by omega) (by omega) (by rw [giveUpTo_s, if_pos hq]; exact M1)
      exact ⟨t3, h3, M3, F1.trans F3⟩
    · rw [if_neg hq]
      exact ih (c + 1) t f (by omega) (by omega) (by rw [giveUpTo_s, if_neg hq]; exact M)
set_option maxHeartbeats 2000000 in
theorem fR_keeper_35_eq (h : pRf e) {L : Nat} (hL : L ≤ 1000) (x1 x2 : Int32) : ∀ (d i : Nat) (t : pS) (f : Nat), i + d = L → d < f → qI t 6 0 29 = nI L → ∃ g, fR_keeper_35 f (pv e t) n (pL e 6 0 0) x1 x2 (nI i) = fR_keeper_35 (g + 1) (pv e (uI (uI t 6 0 25 (shf (rI t 6 0 25) i d)) 6 0 26 (shf (rI t 6 0 26) i d))) n (pL e 6 0 0) x1 x2 (nI L) := by
  intro d
  induction d with
  | zero =>
    intro i t f hi hf h9
    obtain rfl : i = L := by omega
    refine ⟨f - 1, ?_⟩
    rw [shf_0, shf_0, uI_self, uI_self, show f - 1 + 1 = f by omega]
  | succ d ih =>
    intro i t f hi hf h9
    obtain ⟨f, rfl⟩ : ∃ g, f = g + 1 := ⟨f - 1, by omega⟩
    have q : ¬ L ≤ i := by omega
    have ih2 := fun t => ih (i + 1) t f (by omega) (by omega)
    obtain ⟨g, hg⟩ := ih2 (uI (uI t 6 0 25 (fu (rI t 6 0 25) i (rI t 6 0 25 (i + 1)))) 6 0 26 (fu (rI t 6 0 26) i (rI t 6 0 26 (i + 1)))) h9
    refine ⟨g, ?_⟩
    have e1 : fR_keeper_35 (f + 1) (pv e t) n (pL e 6 0 0) x1 x2 (nI i) = fR_keeper_35 f (pv e (uI (uI t 6 0 25 (fu (rI t 6 0 25) i (rI t 6 0 25 (i + 1)))) 6 0 26 (fu (rI t 6 0 26) i (rI t 6 0 26 (i + 1))))) n (pL e 6 0 0) x1 x2 (nI (i + 1)) := by
      rw [fR_keeper_35]
      generalize fR_keeper_138 zF = G
      generalize fR_keeper_35 f = G2
      simp (disch := first | assumption | omega | exact b2i_01 _ | exact Or.inl rfl | exact Or.inr rfl) only [rf_0 h, rf_1 h, rf_2 h, rf_3 h, rf_4 h, rf_5 h, rf_6 h, rf_7 h, rf_8 h, rf_9 h, rf_10 h, rf_11 h, rf_12 h, rf_13 h, rf_14 h, rf_15 h, rf_16 h, rf_17 h, rf_18 h, rf_19 h, rf_20 h, rf_21 h, rf_22 h, rf_23 h, rf_24 h, rf_25 h, rf_26 h, rf_27 h, rf_28 h, rf_29 h, rf_30 h, rf_31 h, rf_32 h, rf_33 h, rp_1 h, rp_2 h, rp_7 h, rp_19 h, rp_29 h, rg_1 h, rg_2 h, rg_3 h, rg_4 h, rg_5 h, rg_6 h, rg_7 h, rg_8 h, rg_9 h, rg_10 h, rg_11 h, rg_12 h, rg_13 h, rg_14 h, rg_15 h, rg_16 h, rg_17 h, rg_18 h, rg_19 h, rg_20 h, rg_21 h, rg_22 h, rg_23 h, rg_24 h, rg_25 h, rg_26 h, rg_27 h, rg_28 h, rs_1 h, rs_2 h, rs_3 h, rs_4 h, rs_5 h, rs_6 h, rs_7 h, rs_8 h, rs_9 h, rs_10 h, rs_11 h, rs_12 h, rs_13 h, rs_14 h, rs_15 h, rs_16 h, rs_17 h, rs_18 h, rs_19 h, rs_20 h, rs_21 h, rs_22 h, rs_23 h, rs_24 h, rs_25 h, rs_26 h, rs_27 h, rs_28 h, ro h, rI_uI, rI_uJ, rI_uR, rI_wI, rI_wJ, rJ_uJ, rJ_uI, rJ_uR, rJ_wI, rJ_wJ, rR_uR, rR_uI, rR_uJ, rR_wI, rR_wJ, qI_wI, qI_wJ, qI_uI, qI_uJ, qI_uR, qJ_wJ, qJ_wI, qJ_uI, qJ_uJ, qJ_uR, Option.bind_some, zcV_s, zcI_s, zcL_s, zrI, zrV, zrL, nI_mul8, nI_mul16, nI_mul200, nI_1, eq_self, Nat.reduceEqDiff, and_true, true_and, and_false, false_and, and_self, ite_true, ite_false, ↓reduceIte, Nat.add_zero, if_true, if_false, b2i_t, b2i_f, o2i_s, o2i_n, nI_leI, nI_ltI, nI_eq, nI_eq0, nI_eqm1, b2i_eq0, h9, q, upd_fu]
    rw [e1, hg]
    simp (disch := first | assumption | omega | exact b2i_01 _ | exact Or.inl rfl | exact Or.inr rfl) only [rf_0 h, rf_1 h, rf_2 h, rf_3 h, rf_4 h, rf_5 h, rf_6 h, rf_7 h, rf_8 h, rf_9 h, rf_10 h, rf_11 h, rf_12 h, rf_13 h, rf_14 h, rf_15 h, rf_16 h, rf_17 h, rf_18 h, rf_19 h, rf_20 h, rf_21 h, rf_22 h, rf_23 h, rf_24 h, rf_25 h, rf_26 h, rf_27 h, rf_28 h, rf_29 h, rf_30 h, rf_31 h, rf_32 h, rf_33 h, rp_1 h, rp_2 h, rp_7 h, rp_19 h, rp_29 h, rg_1 h, rg_2 h, rg_3 h, rg_4 h, rg_5 h, rg_6 h, rg_7 h, rg_8 h, rg_9 h, rg_10 h, rg_11 h, rg_12 h, rg_13 h, rg_14 h, rg_15 h, rg_16 h, rg_17 h, rg_18 h, rg_19 h, rg_20 h, rg_21 h, rg_22 h, rg_23 h, rg_24 h, rg_25 h, rg_26 h, rg_27 h, rg_28 h, rs_1 h, rs_2 h, rs_3 h, rs_4 h, rs_5 h, rs_6 h, rs_7 h, rs_8 h, rs_9 h, rs_10 h, rs_11 h, rs_12 h, rs_13 h, rs_14 h, rs_15 h, rs_16 h, rs_17 h, rs_18 h, rs_19 h, rs_20 h, rs_21 h, rs_22 h, rs_23 h, rs_24 h, rs_25 h, rs_26 h, rs_27 h, rs_28 h, ro h, rI_uI, rI_uJ, rI_uR, rI_wI, rI_wJ, rJ_uJ, rJ_uI, rJ_uR, rJ_wI, rJ_wJ, rR_uR, rR_uI, rR_uJ, rR_wI, rR_wJ, qI_wI, qI_wJ, qI_uI, qI_uJ, qI_uR, qJ_wJ, qJ_wI, qJ_uI, qJ_uJ, qJ_uR, Option.bind_some, zcV_s, zcI_s, zcL_s, zrI, zrV, zrL, nI_mul8, nI_mul16, nI_mul200, nI_1, eq_self, Nat.reduceEqDiff, and_true, true_and, and_false, false_and, and_self, ite_true, ite_false, ↓reduceIte, Nat.add_zero, if_true, if_false, b2i_t, b2i_f, o2i_s, o2i_n, nI_leI, nI_ltI, nI_eq, nI_eq0, nI_eqm1, b2i_eq0]
    rw [shf_s, shf_s, uI_comm _ _ _ _ _ (show (26 : Nat) ≠ 25 by decide), uI_uI, uI_uI]
theorem rg0_25 (h : pRf e) : zaI (pv e t) (some (pL e 6 0 25)) 0 0 = some (rI t 6 0 25 0) := rg_25 h (x := 0) (by omega)
theorem rg0_26 (h : pRf e) : zaI (pv e t) (some (pL e 6 0 26)) 0 0 = some (rI t 6 0 26 0) := rg_26 h (x := 0) (by omega)
set_option maxHeartbeats 2000000 in
theorem fR_keeper_end (h : pRf e) (M : Mod t s) (w : Wf s) {m x : Nat} (hm : m < 40) (hx : x < 8) {f : Nat} : ∃ t', fR_keeper_35 (f + 1) (pv e t) n (pL e 6 0 0) (nI m) (nI x) (nI (s_acks s).length) = some (.inl (some (.int (nI (if s_cond s m ≠ 0 ∨ s_taken s m x = true then 7 else if countS (u_taken s (fu2 (s_taken s) m x true)) m < s_N s then 7 else 8)))), pv e t', n) ∧ Mod t' (if s_cond s m ≠ 0 ∨ s_taken s m x = true then s else if countS (u_taken s (fu2 (s_taken s) m x true)) m < s_N s then u_taken s (fu2 (s_taken s) m x true) else giveUpTo m (closeS (u_taken s (fu2 (s_taken s) m x true)) m 1)) ∧ Fr6 t t' := by
  have hN1 := w.N1; have hN8 := w.N8; have hC := w.C; have hM := w.M; have hA := w.ackn
  have hc2 := w.cond m
  have M1 := M.v_taken (h2_fu b2i (k := m) (y := true) M.c_r24 (by omega) hx rfl)
  have w1 : Wf (u_taken s (fu2 (s_taken s) m x true)) := ⟨(by simp only [y_N_taken, y_C_taken, y_fr_taken, y_to_taken, y_tol_taken, y_sum_taken, y_rows_taken, y_ended_taken, y_latest_taken, y_q_taken, y_log_taken, y_fin_taken, y_stand_taken, y_over_taken, y_held_taken, y_M_taken, y_cond_taken, y_pos_taken, y_came_taken, y_kept_taken, y_kEnd_taken, y_kSum_taken, y_kRows_taken, y_fails_taken, y_acks_taken, su_taken]; exact w.N1), (by simp only [y_N_taken, y_C_taken, y_fr_taken, y_to_taken, y_tol_taken, y_sum_taken, y_rows_taken, y_ended_taken, y_latest_taken, y_q_taken, y_log_taken, y_fin_taken, y_stand_taken, y_over_taken, y_held_taken, y_M_taken, y_cond_taken, y_pos_taken, y_came_taken, y_kept_taken, y_kEnd_taken, y_kSum_taken, y_kRows_taken, y_fails_taken, y_acks_taken, su_taken]; exact w.N8), (by simp only [y_N_taken, y_C_taken, y_fr_taken, y_to_taken, y_tol_taken, y_sum_taken, y_rows_taken, y_ended_taken, y_latest_taken, y_q_taken, y_log_taken, y_fin_taken, y_stand_taken, y_over_taken, y_held_taken, y_M_taken, y_cond_taken, y_pos_taken, y_came_taken, y_kept_taken, y_kEnd_taken, y_kSum_taken, y_kRows_taken, y_fails_taken, y_acks_taken, su_taken]; exact w.C), (by simp only [y_N_taken, y_C_taken, y_fr_taken, y_to_taken, y_tol_taken, y_sum_taken, y_rows_taken, y_ended_taken, y_latest_taken, y_q_taken, y_log_taken, y_fin_taken, y_stand_taken, y_over_taken, y_held_taken, y_M_taken, y_cond_taken, y_pos_taken, y_came_taken, y_kept_taken, y_kEnd_taken, y_kSum_taken, y_kRows_taken, y_fails_taken, y_acks_taken, su_taken]; exact w.M), (by simp only [y_N_taken, y_C_taken, y_fr_taken, y_to_taken, y_tol_taken, y_sum_taken, y_rows_taken, y_ended_taken, y_latest_taken, y_q_taken, y_log_taken, y_fin_taken, y_stand_taken, y_over_taken, y_held_taken, y_M_taken, y_cond_taken, y_pos_taken, y_came_taken, y_kept_taken, y_kEnd_taken, y_kSum_taken, y_kRows_taken, y_fails_taken, y_acks_taken, su_taken]; exact fun c => w.to), (by simp only [y_N_taken, y_C_taken, y_fr_taken, y_to_taken, y_tol_taken, y_sum_taken, y_rows_taken, y_ended_taken, y_latest_taken, y_q_taken, y_log_taken, y_fin_taken, y_stand_taken, y_over_taken, y_held_taken, y_M_taken, y_cond_taken, y_pos_taken, y_came_taken, y_kept_taken, y_kEnd_taken, y_kSum_taken, y_kRows_taken, y_fails_taken, y_acks_taken, su_taken]; exact fun c k => w.fr), (by simp only [y_N_taken, y_C_taken, y_fr_taken, y_to_taken, y_tol_taken, y_sum_taken, y_rows_taken, y_ended_taken, y_latest_taken, y_q_taken, y_log_taken, y_fin_taken, y_stand_taken, y_over_taken, y_held_taken, y_M_taken, y_cond_taken, y_pos_taken, y_came_taken, y_kept_taken, y_kEnd_taken, y_kSum_taken, y_kRows_taken, y_fails_taken, y_acks_taken, su_taken]; exact w.q), (by simp only [y_N_taken, y_C_taken, y_fr_taken, y_to_taken, y_tol_taken, y_sum_taken, y_rows_taken, y_ended_taken, y_latest_taken, y_q_taken, y_log_taken, y_fin_taken, y_stand_taken, y_over_taken, y_held_taken, y_M_taken, y_cond_taken, y_pos_taken, y_came_taken, y_kept_taken, y_kEnd_taken, y_kSum_taken, y_kRows_taken, y_fails_taken, y_acks_taken, su_taken]; exact w.log), (by simp only [y_N_taken, y_C_taken, y_fr_taken, y_to_taken, y_tol_taken, y_sum_taken, y_rows_taken, y_ended_taken, y_latest_taken, y_q_taken, y_log_taken, y_fin_taken, y_stand_taken, y_over_taken, y_held_taken, y_M_taken, y_cond_taken, y_pos_taken, y_came_taken, y_kept_taken, y_kEnd_taken, y_kSum_taken, y_kRows_taken, y_fails_taken, y_acks_taken, su_taken]; exact w.stand), (by simp only [y_N_taken, y_C_taken, y_fr_taken, y_to_taken, y_tol_taken, y_sum_taken, y_rows_taken, y_ended_taken, y_latest_taken, y_q_taken, y_log_taken, y_fin_taken, y_stand_taken, y_over_taken, y_held_taken, y_M_taken, y_cond_taken, y_pos_taken, y_came_taken, y_kept_taken, y_kEnd_taken, y_kSum_taken, y_kRows_taken, y_fails_taken, y_acks_taken, su_taken]; exact fun c k => w.held), (by simp only [y_N_taken, y_C_taken, y_fr_taken, y_to_taken, y_tol_taken, y_sum_taken, y_rows_taken, y_ended_taken, y_latest_taken, y_q_taken, y_log_taken, y_fin_taken, y_stand_taken, y_over_taken, y_held_taken, y_M_taken, y_cond_taken, y_pos_taken, y_came_taken, y_kept_taken, y_kEnd_taken, y_kSum_taken, y_kRows_taken, y_fails_taken, y_acks_taken, su_taken]; exact fun x k => w.latest), (by simp only [y_N_taken, y_C_taken, y_fr_taken, y_to_taken, y_tol_taken, y_sum_taken, y_rows_taken, y_ended_taken, y_latest_taken, y_q_taken, y_log_taken, y_fin_taken, y_stand_taken, y_over_taken, y_held_taken, y_M_taken, y_cond_taken, y_pos_taken, y_came_taken, y_kept_taken, y_kEnd_taken, y_kSum_taken, y_kRows_taken, y_fails_taken, y_acks_taken, su_taken]; exact fun z => w.acks), (by simp only [y_N_taken, y_C_taken, y_fr_taken, y_to_taken, y_tol_taken, y_sum_taken, y_rows_taken, y_ended_taken, y_latest_taken, y_q_taken, y_log_taken, y_fin_taken, y_stand_taken, y_over_taken, y_held_taken, y_M_taken, y_cond_taken, y_pos_taken, y_came_taken, y_kept_taken, y_kEnd_taken, y_kSum_taken, y_kRows_taken, y_fails_taken, y_acks_taken, su_taken]; exact w.ackn), (by simp only [y_N_taken, y_C_taken, y_fr_taken, y_to_taken, y_tol_taken, y_sum_taken, y_rows_taken, y_ended_taken, y_latest_taken, y_q_taken, y_log_taken, y_fin_taken, y_stand_taken, y_over_taken, y_held_taken, y_M_taken, y_cond_taken, y_pos_taken, y_came_taken, y_kept_taken, y_kEnd_taken, y_kSum_taken, y_kRows_taken, y_fails_taken, y_acks_taken, su_taken]; exact w.cond), (by simp only [y_N_taken, y_C_taken, y_fr_taken, y_to_taken, y_tol_taken, y_sum_taken, y_rows_taken, y_ended_taken, y_latest_taken, y_q_taken, y_log_taken, y_fin_taken, y_stand_taken, y_over_taken, y_held_taken, y_M_taken, y_cond_taken, y_pos_taken, y_came_taken, y_kept_taken, y_kEnd_taken, y_kSum_taken, y_kRows_taken, y_fails_taken, y_acks_taken, su_taken]; exact w.pos), (by simp only [y_N_taken, y_C_taken, y_fr_taken, y_to_taken, y_tol_taken, y_sum_taken, y_rows_taken, y_ended_taken, y_latest_taken, y_q_taken, y_log_taken, y_fin_taken, y_stand_taken, y_over_taken, y_held_taken, y_M_taken, y_cond_taken, y_pos_taken, y_came_taken, y_kept_taken, y_kEnd_taken, y_kSum_taken, y_kRows_taken, y_fails_taken, y_acks_taken, su_taken]; exact fun c z => w.kin), (by simp only [y_N_taken, y_C_taken, y_fr_taken, y_to_taken, y_tol_taken, y_sum_taken, y_rows_taken, y_ended_taken, y_latest_taken, y_q_taken, y_log_taken, y_fin_taken, y_stand_taken, y_over_taken, y_held_taken, y_M_taken, y_cond_taken, y_pos_taken, y_came_taken, y_kept_taken, y_kEnd_taken, y_kSum_taken, y_kRows_taken, y_fails_taken, y_acks_taken, su_taken]; exact fun c z => w.bar), (by simp only [y_N_taken, y_C_taken, y_fr_taken, y_to_taken, y_tol_taken, y_sum_taken, y_rows_taken, y_ended_taken, y_latest_taken, y_q_taken, y_log_taken, y_fin_taken, y_stand_taken, y_over_taken, y_held_taken, y_M_taken, y_cond_taken, y_pos_taken, y_came_taken, y_kept_taken, y_kEnd_taken, y_kSum_taken, y_kRows_taken, y_fails_taken, y_acks_taken, su_taken]; exact fun c => w.src)⟩
  have hcn : countS (u_taken s (fu2 (s_taken s) m x true)) m ≤ 8 := by
    unfold countS
    refine Nat.le_trans (List.length_filter_le _ _) ?_
    rw [List.length_range, y_N_taken]
    exact hN8
  have hcount := fR_count_eq (n := n) h M1 w1 hm
  obtain ⟨t2, h2, M2, F2⟩ := fR_close_eq (n := n) (m := m) (how := 1) h M1 w1 hm (by omega)
  have h2' : fR_close (pv e (uI t 6 0 24 (fu (rI t 6 0 24) (8 * m + x) (b2i true)))) n (pL e 6 0 0) (nI m) 1 = some (.inl none, pv e t2, n) := h2
  obtain ⟨t3, h3, M3, F3⟩ := fR_keeper_138_eq (n := n) h (w1.close (m := m) (how := 1) (by omega)) hm m 0 t2 zF (by omega) (zF_big (by omega)) M2
  have h3' : fR_keeper_138 zF (pv e t2) n (pL e 6 0 0) (nI m) 0 = some (.inl (some (.int 8)), pv e t3, n) := h3
  unfold fR_keeper_35
  generalize fR_keeper_138 zF = G at h3' ⊢
  generalize fR_keeper_35 f = G2
  rw [b2i_t] at *
  simp (disch := first | assumption | omega | exact b2i_01 _ | exact Or.inl rfl | exact Or.inr rfl) only [rf_0 h, rf_1 h, rf_2 h, rf_3 h, rf_4 h, rf_5 h, rf_6 h, rf_7 h, rf_8 h, rf_9 h, rf_10 h, rf_11 h, rf_12 h, rf_13 h, rf_14 h, rf_15 h, rf_16 h, rf_17 h, rf_18 h, rf_19 h, rf_20 h, rf_21 h, rf_22 h, rf_23 h, rf_24 h, rf_25 h, rf_26 h, rf_27 h, rf_28 h, rf_29 h, rf_30 h, rf_31 h, rf_32 h, rf_33 h, rp_1 h, rp_2 h, rp_7 h, rp_19 h, rp_29 h, rg_1 h, rg_2 h, rg_3 h, rg_4 h, rg_5 h, rg_6 h, rg_7 h, rg_8 h, rg_9 h, rg_10 h, rg_11 h, rg_12 h, rg_13 h, rg_14 h, rg_15 h, rg_16 h, rg_17 h, rg_18 h, rg_19 h, rg_20 h, rg_21 h, rg_22 h, rg_23 h, rg_24 h, rg_25 h, rg_26 h, rg_27 h, rg_28 h, rs_1 h, rs_2 h, rs_3 h, rs_4 h, rs_5 h, rs_6 h, rs_7 h, rs_8 h, rs_9 h, rs_10 h, rs_11 h, rs_12 h, rs_13 h, rs_14 h, rs_15 h, rs_16 h, rs_17 h, rs_18 h, rs_19 h, rs_20 h, rs_21 h, rs_22 h, rs_23 h, rs_24 h, rs_25 h, rs_26 h, rs_27 h, rs_28 h, ro h, rI_uI, rI_uJ, rI_uR, rI_wI, rI_wJ, rJ_uJ, rJ_uI, rJ_uR, rJ_wI, rJ_wJ, rR_uR, rR_uI, rR_uJ, rR_wI, rR_wJ, qI_wI, qI_wJ, qI_uI, qI_uJ, qI_uR, qJ_wJ, qJ_wI, qJ_uI, qJ_uJ, qJ_uR, Option.bind_some, zcV_s, zcI_s, zcL_s, zrI, zrV, zrL, nI_mul8, nI_mul16, nI_mul200, nI_1, eq_self, Nat.reduceEqDiff, and_true, true_and, and_false, false_and, and_self, ite_true, ite_false, ↓reduceIte, Nat.add_zero, if_true, if_false, b2i_t, b2i_f, o2i_s, o2i_n, M.c_f0, M.c_f2, M.c_f7, M.c_f19, M.c_f29, M.r1, M.r2, M.r3, M.r4, M.r5, M.r6, M.r9, M.r11, M.r12, M.r13, M.r14, M.r15, M.r16, M.r17, M.r18, M.r19, M.r20, M.r21, M.r22, M.r23, M.r24, nI_leI, nI_ltI, nI_eq, nI_eq0, nI_eqm1, b2i_eq0, Nat.le_refl, upd_fu]
  by_cases q1 : s_cond s m = 0
  · rw [if_pos q1]
    cases q2 : s_taken s m x with
    | true =>
      rw [if_neg (by simp), if_pos (Or.inr rfl), if_pos (Or.inr rfl)]
      exact ⟨t, rfl, M, Fr6.refl _⟩
    | false =>
      rw [if_pos rfl, hcount]
      have q3 : ¬ (s_cond s m ≠ 0 ∨ false = true) := by simp [q1]
      rw [if_neg q3, if_neg q3]
      simp (disch := first | assumption | omega) only [zcI_s, rf_0 h, M1.c_f0, Option.bind_some, y_N_taken, nI_leI, ro h, h2', zcV_s, h3']
      by_cases q4 : s_N s ≤ countS (u_taken s (fu2 (s_taken s) m x true)) m
      · rw [if_pos q4, if_neg (by omega), if_neg (by omega)]
        exact ⟨t3, rfl, M3, (Fr6.uI (Fr6.refl _)).trans (F2.trans F3)⟩
      · rw [if_neg q4, if_pos (by omega), if_pos (by omega)]
        exact ⟨_, rfl, M1, Fr6.uI (Fr6.refl _)⟩
  · rw [if_neg q1, if_pos (Or.inl q1), if_pos (Or.inl q1)]
    exact ⟨t, rfl, M, Fr6.refl _⟩
theorem keeperS_eq (s : zSt) {m x : Nat} {r : List (Nat × Nat)} (h : s_acks s = (m, x) :: r) : keeperS s = (if s_cond (u_acks s r) m ≠ 0 ∨ s_taken (u_acks s r) m x = true then 7 else if countS (u_taken (u_acks s r) (fu2 (s_taken (u_acks s r)) m x true)) m < s_N (u_acks s r) then 7 else 8, if s_cond (u_acks s r) m ≠ 0 ∨ s_taken (u_acks s r) m x = true then u_acks s r else if countS (u_taken (u_acks s r) (fu2 (s_taken (u_acks s r)) m x true)) m < s_N (u_acks s r) then u_taken (u_acks s r) (fu2 (s_taken (u_acks s r)) m x true) else giveUpTo m (closeS (u_taken (u_acks s r) (fu2 (s_taken (u_acks s r)) m x true)) m 1)) := by
  unfold keeperS
  rw [h]
  show (if s_cond s m ≠ 0 ∨ s_taken s m x = true then (7, u_acks s r) else if countS (u_taken (u_acks s r) (fu2 (s_taken (u_acks s r)) m x true)) m < s_N s then (7, u_taken (u_acks s r) (fu2 (s_taken (u_acks s r)) m x true)) else (8, giveUpTo m (closeS (u_taken (u_acks s r) (fu2 (s_taken (u_acks s r)) m x true)) m 1))) = _
  by_cases q : s_cond s m ≠ 0 ∨ s_taken s m x = true
  · have q' : s_cond (u_acks s r) m ≠ 0 ∨ s_taken (u_acks s r) m x = true := by rw [y_cond_acks, y_taken_acks]; exact q
    rw [if_pos q, if_pos q', if_pos q']
  · have q' : ¬ (s_cond (u_acks s r) m ≠ 0 ∨ s_taken (u_acks s r) m x = true) := by rw [y_cond_acks, y_taken_acks]; exact q
    rw [if_neg q, if_neg q', if_neg q']
    by_cases q2 : countS (u_taken (u_acks s r) (fu2 (s_taken (u_acks s r)) m x true)) m < s_N s
    · have q2' : countS (u_taken (u_acks s r) (fu2 (s_taken (u_acks s r)) m x true)) m < s_N (u_acks s r) := by rw [y_N_acks]; exact q2
      rw [if_pos q2, if_pos q2', if_pos q2']
    · have q2' : ¬ countS (u_taken (u_acks s r) (fu2 (s_taken (u_acks s r)) m x true)) m < s_N (u_acks s r) := by rw [y_N_acks]; exact q2
      rw [if_neg q2, if_neg q2', if_neg q2']
theorem Wf.uacks (w : Wf s) {z : Nat × Nat} {r : List (Nat × Nat)} (h : s_acks s = z :: r) : Wf (u_acks s r) := by
  refine ⟨(by simp only [y_N_acks, y_C_acks, y_fr_acks, y_to_acks, y_tol_acks, y_sum_acks, y_rows_acks, y_ended_acks, y_latest_acks, y_q_acks, y_log_acks, y_fin_acks, y_stand_acks, y_over_acks, y_held_acks, y_M_acks, y_cond_acks, y_pos_acks, y_came_acks, y_kept_acks, y_kEnd_acks, y_kSum_acks, y_kRows_acks, y_fails_acks, y_taken_acks, su_acks]; exact w.N1), (by simp only [y_N_acks, y_C_acks, y_fr_acks, y_to_acks, y_tol_acks, y_sum_acks, y_rows_acks, y_ended_acks, y_latest_acks, y_q_acks, y_log_acks, y_fin_acks, y_stand_acks, y_over_acks, y_held_acks, y_M_acks, y_cond_acks, y_pos_acks, y_came_acks, y_kept_acks, y_kEnd_acks, y_kSum_acks, y_kRows_acks, y_fails_acks, y_taken_acks, su_acks]; exact w.N8), (by simp only [y_N_acks, y_C_acks, y_fr_acks, y_to_acks, y_tol_acks, y_sum_acks, y_rows_acks, y_ended_acks, y_latest_acks, y_q_acks, y_log_acks, y_fin_acks, y_stand_acks, y_over_acks, y_held_acks, y_M_acks, y_cond_acks, y_pos_acks, y_came_acks, y_kept_acks, y_kEnd_acks, y_kSum_acks, y_kRows_acks, y_fails_acks, y_taken_acks, su_acks]; exact w.C), (by simp only [y_N_acks, y_C_acks, y_fr_acks, y_to_acks, y_tol_acks, y_sum_acks, y_rows_acks, y_ended_acks, y_latest_acks, y_q_acks, y_log_acks, y_fin_acks, y_stand_acks, y_over_acks, y_held_acks, y_M_acks, y_cond_acks, y_pos_acks, y_came_acks, y_kept_acks, y_kEnd_acks, y_kSum_acks, y_kRows_acks, y_fails_acks, y_taken_acks, su_acks]; exact w.M), (by simp only [y_N_acks, y_C_acks, y_fr_acks, y_to_acks, y_tol_acks, y_sum_acks, y_rows_acks, y_ended_acks, y_latest_acks, y_q_acks, y_log_acks, y_fin_acks, y_stand_acks, y_over_acks, y_held_acks, y_M_acks, y_cond_acks, y_pos_acks, y_came_acks, y_kept_acks, y_kEnd_acks, y_kSum_acks, y_kRows_acks, y_fails_acks, y_taken_acks, su_acks]; exact fun c => w.to), (by simp only [y_N_acks, y_C_acks, y_fr_acks, y_to_acks, y_tol_acks, y_sum_acks, y_rows_acks, y_ended_acks, y_latest_acks, y_q_acks, y_log_acks, y_fin_acks, y_stand_acks, y_over_acks, y_held_acks, y_M_acks, y_cond_acks, y_pos_acks, y_came_acks, y_kept_acks, y_kEnd_acks, y_kSum_acks, y_kRows_acks, y_fails_acks, y_taken_acks, su_acks]; exact fun c k => w.fr), (by simp only [y_N_acks, y_C_acks, y_fr_acks, y_to_acks, y_tol_acks, y_sum_acks, y_rows_acks, y_ended_acks, y_latest_acks, y_q_acks, y_log_acks, y_fin_acks, y_stand_acks, y_over_acks, y_held_acks, y_M_acks, y_cond_acks, y_pos_acks, y_came_acks, y_kept_acks, y_kEnd_acks, y_kSum_acks, y_kRows_acks, y_fails_acks, y_taken_acks, su_acks]; exact w.q), (by simp only [y_N_acks, y_C_acks, y_fr_acks, y_to_acks, y_tol_acks, y_sum_acks, y_rows_acks, y_ended_acks, y_latest_acks, y_q_acks, y_log_acks, y_fin_acks, y_stand_acks, y_over_acks, y_held_acks, y_M_acks, y_cond_acks, y_pos_acks, y_came_acks, y_kept_acks, y_kEnd_acks, y_kSum_acks, y_kRows_acks, y_fails_acks, y_taken_acks, su_acks]; exact w.log), (by simp only [y_N_acks, y_C_acks, y_fr_acks, y_to_acks, y_tol_acks, y_sum_acks, y_rows_acks, y_ended_acks, y_latest_acks, y_q_acks, y_log_acks, y_fin_acks, y_stand_acks, y_over_acks, y_held_acks, y_M_acks, y_cond_acks, y_pos_acks, y_came_acks, y_kept_acks, y_kEnd_acks, y_kSum_acks, y_kRows_acks, y_fails_acks, y_taken_acks, su_acks]; exact w.stand), (by simp only [y_N_acks, y_C_acks, y_fr_acks, y_to_acks, y_tol_acks, y_sum_acks, y_rows_acks, y_ended_acks, y_latest_acks, y_q_acks, y_log_acks, y_fin_acks, y_stand_acks, y_over_acks, y_held_acks, y_M_acks, y_cond_acks, y_pos_acks, y_came_acks, y_kept_acks, y_kEnd_acks, y_kSum_acks, y_kRows_acks, y_fails_acks, y_taken_acks, su_acks]; exact fun c k => w.held), (by simp only [y_N_acks, y_C_acks, y_fr_acks, y_to_acks, y_tol_acks, y_sum_acks, y_rows_acks, y_ended_acks, y_latest_acks, y_q_acks, y_log_acks, y_fin_acks, y_stand_acks, y_over_acks, y_held_acks, y_M_acks, y_cond_acks, y_pos_acks, y_came_acks, y_kept_acks, y_kEnd_acks, y_kSum_acks, y_kRows_acks, y_fails_acks, y_taken_acks, su_acks]; exact fun x k => w.latest), ?_, ?_, (by simp only [y_N_acks, y_C_acks, y_fr_acks, y_to_acks, y_tol_acks, y_sum_acks, y_rows_acks, y_ended_acks, y_latest_acks, y_q_acks, y_log_acks, y_fin_acks, y_stand_acks, y_over_acks, y_held_acks, y_M_acks, y_cond_acks, y_pos_acks, y_came_acks, y_kept_acks, y_kEnd_acks, y_kSum_acks, y_kRows_acks, y_fails_acks, y_taken_acks, su_acks]; exact w.cond), (by simp only [y_N_acks, y_C_acks, y_fr_acks, y_to_acks, y_tol_acks, y_sum_acks, y_rows_acks, y_ended_acks, y_latest_acks, y_q_acks, y_log_acks, y_fin_acks, y_stand_acks, y_over_acks, y_held_acks, y_M_acks, y_cond_acks, y_pos_acks, y_came_acks, y_kept_acks, y_kEnd_acks, y_kSum_acks, y_kRows_acks, y_fails_acks, y_taken_acks, su_acks]; exact w.pos), (by simp only [y_N_acks, y_C_acks, y_fr_acks, y_to_acks, y_tol_acks, y_sum_acks, y_rows_acks, y_ended_acks, y_latest_acks, y_q_acks, y_log_acks, y_fin_acks, y_stand_acks, y_over_acks, y_held_acks, y_M_acks, y_cond_acks, y_pos_acks, y_came_acks, y_kept_acks, y_kEnd_acks, y_kSum_acks, y_kRows_acks, y_fails_acks, y_taken_acks, su_acks]; exact fun c z => w.kin), (by simp only [y_N_acks, y_C_acks, y_fr_acks, y_to_acks, y_tol_acks, y_sum_acks, y_rows_acks, y_ended_acks, y_latest_acks, y_q_acks, y_log_acks, y_fin_acks, y_stand_acks, y_over_acks, y_held_acks, y_M_acks, y_cond_acks, y_pos_acks, y_came_acks, y_kept_acks, y_kEnd_acks, y_kSum_acks, y_kRows_acks, y_fails_acks, y_taken_acks, su_acks]; exact fun c z => w.bar), (by simp only [y_N_acks, y_C_acks, y_fr_acks, y_to_acks, y_tol_acks, y_sum_acks, y_rows_acks, y_ended_acks, y_latest_acks, y_q_acks, y_log_acks, y_fin_acks, y_stand_acks, y_over_acks, y_held_acks, y_M_acks, y_cond_acks, y_pos_acks, y_came_acks, y_kept_acks, y_kEnd_acks, y_kSum_acks, y_kRows_acks, y_fails_acks, y_taken_acks, su_acks]; exact fun c => w.src)⟩
  · intro y hy
    rw [su_acks] at hy
    rw [y_M_acks, y_N_acks]
    exact w.acks (by rw [h]; exact List.mem_cons_of_mem _ hy)
  · rw [su_acks]
    have := w.ackn
    rw [h, List.length_cons] at this
    omega
set_option maxHeartbeats 2000000 in
theorem fR_keeper_eq (h : pRf e) (M : Mod t s) (w : Wf s) : ∃ t', fR_keeper (pv e t) n (pL e 6 0 0) = some (.inl (some (.int (nI (keeperS s).1))), pv e t', n) ∧ Mod t' (keeperS s).2 ∧ Fr6 t t' := by
  have hN1 := w.N1; have hN8 := w.N8; have hC := w.C; have hM := w.M; have hA := w.ackn
  cases hk : s_acks s with
  | nil =>
    have e1 : keeperS s = (0, s) := by unfold keeperS; rw [hk]
    have e2 : qI t 6 0 29 = 0 := by rw [M.c_f29, hk]; rfl
    rw [e1]
    unfold fR_keeper
    generalize fR_keeper_35 zF = G
    simp (disch := first | assumption | omega | exact b2i_01 _ | exact Or.inl rfl | exact Or.inr rfl) only [rf_0 h, rf_1 h, rf_2 h, rf_3 h, rf_4 h, rf_5 h, rf_6 h, rf_7 h, rf_8 h, rf_9 h, rf_10 h, rf_11 h, rf_12 h, rf_13 h, rf_14 h, rf_15 h, rf_16 h, rf_17 h, rf_18 h, rf_19 h, rf_20 h, rf_21 h, rf_22 h, rf_23 h, rf_24 h, rf_25 h, rf_26 h, rf_27 h, rf_28 h, rf_29 h, rf_30 h, rf_31 h, rf_32 h, rf_33 h, rp_1 h, rp_2 h, rp_7 h, rp_19 h, rp_29 h, rg_1 h, rg_2 h, rg_3 h, rg_4 h, rg_5 h, rg_6 h, rg_7 h, rg_8 h, rg_9 h, rg_10 h, rg_11 h, rg_12 h, rg_13 h, rg_14 h, rg_15 h, rg_16 h, rg_17 h, rg_18 h, rg_19 h, rg_20 h, rg_21 h, rg_22 h, rg_23 h, rg_24 h, rg_25 h, rg_26 h, rg_27 h, rg_28 h, rs_1 h, rs_2 h, rs_3 h, rs_4 h, rs_5 h, rs_6 h, rs_7 h, rs_8 h, rs_9 h, rs_10 h, rs_11 h, rs_12 h, rs_13 h, rs_14 h, rs_15 h, rs_16 h, rs_17 h, rs_18 h, rs_19 h, rs_20 h, rs_21 h, rs_22 h, rs_23 h, rs_24 h, rs_25 h, rs_26 h, rs_27 h, rs_28 h, ro h, rI_uI, rI_uJ, rI_uR, rI_wI, rI_wJ, rJ_uJ, rJ_uI, rJ_uR, rJ_wI, rJ_wJ, rR_uR, rR_uI, rR_uJ, rR_wI, rR_wJ, qI_wI, qI_wJ, qI_uI, qI_uJ, qI_uR, qJ_wJ, qJ_wI, qJ_uI, qJ_uJ, qJ_uR, Option.bind_some, zcV_s, zcI_s, zcL_s, zrI, zrV, zrL, nI_mul8, nI_mul16, nI_mul200, nI_1, eq_self, Nat.reduceEqDiff, and_true, true_and, and_false, false_and, and_self, ite_true, ite_false, ↓reduceIte, Nat.add_zero, if_true, if_false, b2i_t, b2i_f, o2i_s, o2i_n, M.c_f0, M.c_f2, M.c_f7, M.c_f19, M.c_f29, M.r1, M.r2, M.r3, M.r4, M.r5, M.r6, M.r9, M.r11, M.r12, M.r13, M.r14, M.r15, M.r16, M.r17, M.r18, M.r19, M.r20, M.r21, M.r22, M.r23, M.r24, nI_leI, nI_ltI, nI_eq, nI_eq0, nI_eqm1, b2i_eq0, e2]
    rw [if_pos (by rw [hk]; rfl)]
    exact ⟨t, rfl, M, Fr6.refl _⟩
  | cons z r =>
    obtain ⟨m, x⟩ := z
    obtain ⟨hm, hx⟩ := w.acks (z := (m, x)) (by rw [hk]; exact List.mem_cons_self)
    have hm : m < s_M s := hm
    have hx : x < s_N s := hx
    have hl : (s_acks s).length = r.length + 1 := by rw [hk]; rfl
    have e25 := M.r25 (i := 0) (z := (m, x)) (by rw [hk]; rfl)
    have e26 := M.r26 (i := 0) (z := (m, x)) (by rw [hk]; rfl)
    have h25 := M.c_q25
    have h26 := M.c_q26
    rw [hk] at h25 h26
    have M1 : Mod (uI (uI (wI t 6 0 29 (nI r.length)) 6 0 25 (shf (rI t 6 0 25) 0 r.length)) 6 0 26 (shf (rI t 6 0 26) 0 r.length)) (u_acks s r) := by
      rw [uI_wI, uI_wI]
      exact M.v_acks (hL_erase (k := 0) h25 (by rw [List.length_cons]; omega)) (hL_erase (k := 0) h26 (by rw [List.length_cons]; omega)) rfl
    obtain ⟨g, hg⟩ := fR_keeper_35_eq (n := n) (e := e) h (L := r.length) (by omega) (nI m) (nI x) r.length 0 (wI t 6 0 29 (nI r.length)) zF (by omega) (zF_big (by omega)) rfl
    have hg' : fR_keeper_35 zF (pv e (wI t 6 0 29 (nI r.length))) n (pL e 6 0 0) (nI m) (nI x) 0 = _ := hg
    obtain ⟨t3, h3, M3, F3⟩ := fR_keeper_end (n := n) (f := g) h M1 (w.uacks hk) (m := m) (x := x) (by omega) (by omega)
    rw [su_acks] at h3
    rw [keeperS_eq s hk]
    refine ⟨t3, ?_, M3, (Fr6.uI (Fr6.uI (Fr6.wI (by decide) (Fr6.refl _)))).trans F3⟩
    rw [← h3]
    refine Eq.trans ?_ hg'
    unfold fR_keeper
    generalize fR_keeper_35 zF = G
    simp (disch := first | assumption | omega | exact b2i_01 _ | exact Or.inl rfl | exact Or.inr rfl) only [rf_0 h, rf_1 h, rf_2 h, rf_3 h, rf_4 h, rf_5 h, rf_6 h, rf_7 h, rf_8 h, rf_9 h, rf_10 h, rf_11 h, rf_12 h, rf_13 h, rf_14 h, rf_15 h, rf_16 h, rf_17 h, rf_18 h, rf_19 h, rf_20 h, rf_21 h, rf_22 h, rf_23 h, rf_24 h, rf_25 h, rf_26 h, rf_27 h, rf_28 h, rf_29 h, rf_30 h, rf_31 h, rf_32 h, rf_33 h, rp_1 h, rp_2 h, rp_7 h, rp_19 h, rp_29 h, rg_1 h, rg_2 h, rg_3 h, rg_4 h, rg_5 h, rg_6 h, rg_7 h, rg_8 h, rg_9 h, rg_10 h, rg_11 h, rg_12 h, rg_13 h, rg_14 h, rg_15 h, rg_16 h, rg_17 h, rg_18 h, rg_19 h, rg_20 h, rg_21 h, rg_22 h, rg_23 h, rg_24 h, rg_25 h, rg_26 h, rg_27 h, rg_28 h, rs_1 h, rs_2 h, rs_3 h, rs_4 h, rs_5 h, rs_6 h, rs_7 h, rs_8 h, rs_9 h, rs_10 h, rs_11 h, rs_12 h, rs_13 h, rs_14 h, rs_15 h, rs_16 h, rs_17 h, rs_18 h, rs_19 h, rs_20 h, rs_21 h, rs_22 h, rs_23 h, rs_24 h, rs_25 h, rs_26 h, rs_27 h, rs_28 h, ro h, rI_uI, rI_uJ, rI_uR, rI_wI, rI_wJ, rJ_uJ, rJ_uI, rJ_uR, rJ_wI, rJ_wJ, rR_uR, rR_uI, rR_uJ, rR_wI, rR_wJ, qI_wI, qI_wJ, qI_uI, qI_uJ, qI_uR, qJ_wJ, qJ_wI, qJ_uI, qJ_uJ, qJ_uR, Option.bind_some, zcV_s, zcI_s, zcL_s, zrI, zrV, zrL, nI_mul8, nI_mul16, nI_mul200, nI_1, eq_self, Nat.reduceEqDiff, and_true, true_and, and_false, false_and, and_self, ite_true, ite_false, ↓reduceIte, Nat.add_zero, if_true, if_false, b2i_t, b2i_f, o2i_s, o2i_n, M.c_f0, M.c_f2, M.c_f7, M.c_f19, M.c_f29, M.r1, M.r2, M.r3, M.r4, M.r5, M.r6, M.r9, M.r11, M.r12, M.r13, M.r14, M.r15, M.r16, M.r17, M.r18, M.r19, M.r20, M.r21, M.r22, M.r23, M.r24, nI_leI, nI_ltI, nI_eq, nI_eq0, nI_eqm1, b2i_eq0, rg0_25 h, rg0_26 h, e25, e26, hl, nI_pred]
end PM
