/-! the class: keeperTurn -/
section PO
variable {e : pE} {t t' : pS} {s : zSt} {n : Nat}
set_option maxHeartbeats 2000000 in
theorem fB_completeMark_8_eq (w : Wf s) {m : Nat} (hm : m < s_M s) : ∀ (d c : Nat) (t : pS) (f : Nat), c + d = m → d < f → Cls e t (giveUpTo c s) → ∃ t', fB_completeMark_8 f (pv e t) n (pL e 0 0 0) (some (pL e 5 m 0)) (nI c) = some (.inl none, pv e t', n) ∧ Cls e t' (giveUpTo m s) ∧ Fr PC t t' := by
  have hM := w.M
  have hN8 := w.N8
  intro d
  induction d with
  | zero =>
    intro c t f hc hf g
    obtain ⟨f, rfl⟩ : ∃ g, f = g + 1 := ⟨f - 1, by omega⟩
    obtain rfl : c = m := by omega
    have o0 := g.o0
    have o5 := g.o5 (m := c) (by rw [gu_M]; exact hm)
    have hN : s_N (giveUpTo c s) < 2 ^ 31 := by rw [gu_N]; omega
    have mm0 := (g.M c (by rw [gu_M]; exact hm)).1
    unfold fB_completeMark_8
    simp (disch := first | assumption | omega | exact b2i_01 _ | exact Or.inl rfl | exact Or.inr rfl) only [b0 o0, f0_0 o0, f0_1 o0, f0_2 o0, f0_3 o0, f0_4 o0, f0_5 o0, f0_6 o0, p0_6 o0, f0_7 o0, p0_7 o0, f0_8 o0, p0_8 o0, f0_9 o0, p0_9 o0, a0_1 o0, g0_2 o0, a0_2 o0, g0_3 o0, a0_3 o0, a0_4 o0, a0_5 o0, g0_1 o0 hN, g0_4 o0 hN, s0_4 o0 hN, g0_5 o0 hN, s0_5 o0 hN, b5 o5, f5_0 o5, p5_0 o5, f5_1 o5, f5_2 o5, f5_3 o5, f5_4 o5, f5_5 o5, f5_6 o5, f5_7 o5, p5_7 o5, f5_8 o5, p5_8 o5, a5_1 o5, a5_2 o5, a5_3 o5, a5_4 o5, a5_5 o5, a5_6 o5, g5_1 o5 hN, s5_1 o5 hN, g5_2 o5 hN, s5_2 o5 hN, g5_3 o5 hN, s5_3 o5 hN, g5_4 o5 hN, s5_4 o5 hN, g5_5 o5 hN, s5_5 o5 hN, g5_6 o5 hN, s5_6 o5 hN, rI_uI, rI_uJ, rI_uR, rI_wI, rI_wJ, rJ_uJ, rJ_uI, rJ_uR, rJ_wI, rJ_wJ, rR_uR, rR_uI, rR_uJ, rR_wI, rR_wJ, qI_wI, qI_wJ, qI_uI, qI_uJ, qI_uR, qJ_wJ, qJ_wI, qJ_uI, qJ_uJ, qJ_uR, Option.bind_some, zcV_s, zcI_s, zcL_s, zrI, zrV, zrL, nI_mul8, nI_mul16, nI_mul200, nI_1, eq_self, Nat.reduceEqDiff, and_true, true_and, and_false, false_and, and_self, ite_true, ite_false, ↓reduceIte, Nat.add_zero, if_true, if_false, b2i_t, b2i_f, o2i_s, o2i_n, zdI_s, zdV_s, zdL_s, zcR_s, zcV_x, zcI_x, zcL_x, zcR_x, zrR_s, zth_s, nI_leI, nI_ltI, nI_eq, nI_eq0, nI_eqm1, b2i_eq0, mm0, Nat.le_refl]
    exact ⟨t, rfl, g, Fr.refl _ _⟩
  | succ d ih =>
    intro c t f hc hf g
    obtain ⟨f, rfl⟩ : ∃ g, f = g + 1 := ⟨f - 1, by omega⟩
    have q : ¬ m ≤ c := by omega
    have hmM : m < s_M (giveUpTo c s) := by rw [gu_M]; exact hm
    have hcM : c < s_M (giveUpTo c s) := by rw [gu_M]; omega
    have w2 := w.gu c
    have hcd := w2.cond c
    have o0 := g.o0
    have o5 := g.o5 hmM
    have o5c := g.o5 hcM
    have hN : s_N (giveUpTo c s) < 2 ^ 31 := by rw [gu_N]; omega
    have mm0 := (g.M m hmM).1
    have mm8 := (g.M c hcM).2.2.2.2.2.2.2.2
    have r3 := g.r3 hcM
    have hc40 : c < 40 := by omega
    by_cases hq : s_cond (giveUpTo c s) c = 0
    · obtain ⟨t1, h1, g1, F1⟩ := fB_stopMark_eq (n := n) (m := c) (how := 2) g w2 hcM hq (by omega) (by omega)
      have h1' : fB_stopMark (pv e t) n (pL e 0 0 0) (some (pL e 5 c 0)) 2 = some (.inl none, pv e t1, n) := h1
      obtain ⟨t3, h3, g3, F3⟩ := ih (c + 1) t1 f (by omega) (by omega) (by rw [giveUpTo_s, if_pos hq]; exact g1)
      refine ⟨t3, ?_, g3, F1.trans F3⟩
      rw [← h3]
      generalize hR : fB_completeMark_8 f = R
      unfold fB_completeMark_8 fB_completeMark_39
      rw [hR]
      simp (disch := first | assumption | omega | exact b2i_01 _ | exact Or.inl rfl | exact Or.inr rfl) only [b0 o0, f0_0 o0, f0_1 o0, f0_2 o0, f0_3 o0, f0_4 o0, f0_5 o0, f0_6 o0, p0_6 o0, f0_7 o0, p0_7 o0, f0_8 o0, p0_8 o0, f0_9 o0, p0_9 o0, a0_1 o0, g0_2 o0, a0_2 o0, g0_3 o0, a0_3 o0, a0_4 o0, a0_5 o0, g0_1 o0 hN, g0_4 o0 hN, s0_4 o0 hN, g0_5 o0 hN, s0_5 o0 hN, b5 o5, f5_0 o5, p5_0 o5, f5_1 o5, f5_2 o5, f5_3 o5, f5_4 o5, f5_5 o5, f5_6 o5, f5_7 o5, p5_7 o5, f5_8 o5, p5_8 o5, a5_1 o5, a5_2 o5, a5_3 o5, a5_4 o5, a5_5 o5, a5_6 o5, g5_1 o5 hN, s5_1 o5 hN, g5_2 o5 hN, s5_2 o5 hN, g5_3 o5 hN, s5_3 o5 hN, g5_4 o5 hN, s5_4 o5 hN, g5_5 o5 hN, s5_5 o5 hN, g5_6 o5 hN, s5_6 o5 hN, b5 o5c, f5_0 o5c, p5_0 o5c, f5_1 o5c, f5_2 o5c, f5_3 o5c, f5_4 o5c, f5_5 o5c, f5_6 o5c, f5_7 o5c, p5_7 o5c, f5_8 o5c, p5_8 o5c, a5_1 o5c, a5_2 o5c, a5_3 o5c, a5_4 o5c, a5_5 o5c, a5_6 o5c, g5_1 o5c hN, s5_1 o5c hN, g5_2 o5c hN, s5_2 o5c hN, g5_3 o5c hN, s5_3 o5c hN, g5_4 o5c hN, s5_4 o5c hN, g5_5 o5c hN, s5_5 o5c hN, g5_6 o5c hN, s5_6 o5c hN, rI_uI, rI_uJ, rI_uR, rI_wI, rI_wJ, rJ_uJ, rJ_uI, rJ_uR, rJ_wI, rJ_wJ, rR_uR, rR_uI, rR_uJ, rR_wI, rR_wJ, qI_wI, qI_wJ, qI_uI, qI_uJ, qI_uR, qJ_wJ, qJ_wI, qJ_uI, qJ_uJ, qJ_uR, Option.bind_some, zcV_s, zcI_s, zcL_s, zrI, zrV, zrL, nI_mul8, nI_mul16, nI_mul200, nI_1, eq_self, Nat.reduceEqDiff, and_true, true_and, and_false, false_and, and_self, ite_true, ite_false, ↓reduceIte, Nat.add_zero, if_true, if_false, b2i_t, b2i_f, o2i_s, o2i_n, zdI_s, zdV_s, zdL_s, zcR_s, zcV_x, zcI_x, zcL_x, zcR_x, zrR_s, zth_s, nI_leI, nI_ltI, nI_eq, nI_eq0, nI_eqm1, b2i_eq0, mm0, q, r3, mm8, hq, nI0, h1']
    · obtain ⟨t3, h3, g3, F3⟩ := ih (c + 1) t f (by omega) (by omega) (by rw [giveUpTo_s, if_neg hq]; exact g)
      refine ⟨t3, ?_, g3, F3⟩
      rw [← h3]
      generalize hR : fB_completeMark_8 f = R
      unfold fB_completeMark_8 fB_completeMark_39
      rw [hR]
      simp (disch := first | assumption | omega | exact b2i_01 _ | exact Or.inl rfl | exact Or.inr rfl) only [b0 o0, f0_0 o0, f0_1 o0, f0_2 o0, f0_3 o0, f0_4 o0, f0_5 o0, f0_6 o0, p0_6 o0, f0_7 o0, p0_7 o0, f0_8 o0, p0_8 o0, f0_9 o0, p0_9 o0, a0_1 o0, g0_2 o0, a0_2 o0, g0_3 o0, a0_3 o0, a0_4 o0, a0_5 o0, g0_1 o0 hN, g0_4 o0 hN, s0_4 o0 hN, g0_5 o0 hN, s0_5 o0 hN, b5 o5, f5_0 o5, p5_0 o5, f5_1 o5, f5_2 o5, f5_3 o5, f5_4 o5, f5_5 o5, f5_6 o5, f5_7 o5, p5_7 o5, f5_8 o5, p5_8 o5, a5_1 o5, a5_2 o5, a5_3 o5, a5_4 o5, a5_5 o5, a5_6 o5, g5_1 o5 hN, s5_1 o5 hN, g5_2 o5 hN, s5_2 o5 hN, g5_3 o5 hN, s5_3 o5 hN, g5_4 o5 hN, s5_4 o5 hN, g5_5 o5 hN, s5_5 o5 hN, g5_6 o5 hN, s5_6 o5 hN, b5 o5c, f5_0 o5c, p5_0 o5c, f5_1 o5c, f5_2 o5c, f5_3 o5c, f5_4 o5c, f5_5 o5c, f5_6 o5c, f5_7 o5c, p5_7 o5c, f5_8 o5c, p5_8 o5c, a5_1 o5c, a5_2 o5c, a5_3 o5c, a5_4 o5c, a5_5 o5c, a5_6 o5c, g5_1 o5c hN, s5_1 o5c hN, g5_2 o5c hN, s5_2 o5c hN, g5_3 o5c hN, s5_3 o5c hN, g5_4 o5c hN, s5_4 o5c hN, g5_5 o5c hN, s5_5 o5c hN, g5_6 o5c hN, s5_6 o5c hN, rI_uI, rI_uJ, rI_uR, rI_wI, rI_wJ, rJ_uJ, rJ_uI, rJ_uR, rJ_wI, rJ_wJ, rR_uR, rR_uI, rR_uJ, rR_wI, rR_wJ, qI_wI, qI_wJ, qI_uI, qI_uJ, qI_uR, qJ_wJ, qJ_wI, qJ_uI, qJ_uJ, qJ_uR, Option.bind_some, zcV_s, zcI_s, zcL_s, zrI, zrV, zrL, nI_mul8, nI_mul16, nI_mul200, nI_1, eq_self, Nat.reduceEqDiff, and_true, true_and, and_false, false_and, and_self, ite_true, ite_false, ↓reduceIte, Nat.add_zero, if_true, if_false, b2i_t, b2i_f, o2i_s, o2i_n, zdI_s, zdV_s, zdL_s, zcR_s, zcV_x, zcI_x, zcL_x, zcR_x, zrR_s, zth_s, nI_leI, nI_ltI, nI_eq, nI_eq0, nI_eqm1, b2i_eq0, mm0, q, r3, mm8, hq]
theorem countS_inc {m x : Nat} (hx : x < s_N s) (h : s_taken s m x = false) : countS (u_taken s (fu2 (s_taken s) m x true)) m = countS s m + 1 := by
  unfold countS
  rw [y_N_taken, su_taken, fu2_self]
  generalize s_N s = K at hx
  induction K with
  | zero => omega
  | succ K ih =>
    rw [List.range_succ, List.filter_append, List.filter_append, List.length_append, List.length_append]
    by_cases q : x = K
    · have e1 : (List.range K).filter (fun j => fu (s_taken s m) x true j) = (List.range K).filter (fun j => s_taken s m j) := by
        refine List.filter_congr fun j hj => ?_
        rw [fu_ne _ _ (by have := List.mem_range.mp hj; omega)]
      rw [e1, ← q, List.filter_cons_of_pos (by rw [fu_self]), List.filter_cons_of_neg (by rw [h]; decide)]
      rfl
    · have := ih (by omega)
      have e1 : [K].filter (fun j => fu (s_taken s m) x true j) = [K].filter (fun j => s_taken s m j) := by
        refine List.filter_congr fun j hj => ?_
        rw [List.mem_singleton.mp hj, fu_ne _ _ (fun z => q z.symm)]
      rw [e1]
      omega
theorem countS_ne (s : zSt) {m j x : Nat} (v : Bool) (h : j ≠ m) : countS (u_taken s (fu2 (s_taken s) m x v)) j = countS s j := by
  unfold countS
  rw [y_N_taken, su_taken, fu2_ne _ _ _ h]
theorem countS_le (s : zSt) (m : Nat) : countS s m ≤ s_N s := by
  unfold countS
  refine Nat.le_trans (List.length_filter_le _ _) ?_
  rw [List.length_range]
  exact Nat.le_refl _
theorem Cls.utaken (g : Cls e t s) {m x : Nat} (hm : m < s_M s) (hx : x < s_N s) (h : s_taken s m x = false) : Cls e (wI (uI t 5 m 3 (fu (rI t 5 m 3) x 1)) 5 m 7 (nI (countS s m + 1))) (u_taken s (fu2 (s_taken s) m x true)) := by
  unfold Cls
  rw [y_M_taken, d_dueS_taken]
  refine ClsG.umark g (m := m) (Fr.wI (po 5 m) (Fr.uI (po 5 m) (Fr.refl _ _))) (fun e t Mf due => by unfold ClsG; simp only [y_N_taken, y_C_taken, y_fr_taken, y_to_taken, y_tol_taken, y_sum_taken, y_rows_taken, y_ended_taken, y_latest_taken, y_q_taken, y_log_taken, y_fin_taken, y_stand_taken, y_over_taken, y_held_taken, y_M_taken, y_cond_taken, y_pos_taken, y_came_taken, y_kept_taken, y_kEnd_taken, y_kSum_taken, y_kRows_taken, y_fails_taken, y_acks_taken, su_taken, d_ins_taken, d_outs_taken, d_hasIn_taken, d_dueS_taken, d_look_taken, d_begunS_taken, d_credit_taken, d_barS_taken, d_nextS_taken, d_heldS_taken, d_NKs_taken]) (fun j hj => ?_) ?_
  · simp only [y_N_taken, y_C_taken, y_fr_taken, y_to_taken, y_tol_taken, y_sum_taken, y_rows_taken, y_ended_taken, y_latest_taken, y_q_taken, y_log_taken, y_fin_taken, y_stand_taken, y_over_taken, y_held_taken, y_M_taken, y_cond_taken, y_pos_taken, y_came_taken, y_kept_taken, y_kEnd_taken, y_kSum_taken, y_kRows_taken, y_fails_taken, y_acks_taken, su_taken, d_ins_taken, d_outs_taken, d_hasIn_taken, d_dueS_taken, d_look_taken, d_begunS_taken, d_credit_taken, d_barS_taken, d_nextS_taken, d_heldS_taken, d_NKs_taken]
    exact ⟨(by trivial), (by trivial), fu2_ne _ _ _ hj, (by trivial), (by trivial), (by trivial), countS_ne s _ hj⟩
  · simp only [y_N_taken, y_C_taken, y_fr_taken, y_to_taken, y_tol_taken, y_sum_taken, y_rows_taken, y_ended_taken, y_latest_taken, y_q_taken, y_log_taken, y_fin_taken, y_stand_taken, y_over_taken, y_held_taken, y_M_taken, y_cond_taken, y_pos_taken, y_came_taken, y_kept_taken, y_kEnd_taken, y_kSum_taken, y_kRows_taken, y_fails_taken, y_acks_taken, su_taken, d_ins_taken, d_outs_taken, d_hasIn_taken, d_dueS_taken, d_look_taken, d_begunS_taken, d_credit_taken, d_barS_taken, d_nextS_taken, d_heldS_taken, d_NKs_taken, fu2_self, countS_inc hx h]
    obtain ⟨mm0, mm1, mm2, mm3, mm4, mm5, mm6, mm7, mm8⟩ := g.M m hm
    unfold cMo
    simp only [rI_uI, rI_wI, rJ_uI, rJ_wI, qI_wI, qI_uI, true_and, and_true, Nat.reduceEqDiff, and_false, ↓reduceIte, and_self]
    exact ⟨mm0, mm1, mm2, hI_fu b2i mm3 rfl, mm4, mm5, mm6, mm8⟩
theorem Wf.utaken (w : Wf s) {g : Nat → Nat → Bool} : Wf (u_taken s g) := ⟨(by simp only [y_N_taken, y_C_taken, y_fr_taken, y_to_taken, y_tol_taken, y_sum_taken, y_rows_taken, y_ended_taken, y_latest_taken, y_q_taken, y_log_taken, y_fin_taken, y_stand_taken, y_over_taken, y_held_taken, y_M_taken, y_cond_taken, y_pos_taken, y_came_taken, y_kept_taken, y_kEnd_taken, y_kSum_taken, y_kRows_taken, y_fails_taken, y_acks_taken, su_taken]; exact w.N1), (by simp only [y_N_taken, y_C_taken, y_fr_taken, y_to_taken, y_tol_taken, y_sum_taken, y_rows_taken, y_ended_taken, y_latest_taken, y_q_taken, y_log_taken, y_fin_taken, y_stand_taken, y_over_taken, y_held_taken, y_M_taken, y_cond_taken, y_pos_taken, y_came_taken, y_kept_taken, y_kEnd_taken, y_kSum_taken, y_kRows_taken, y_fails_taken, y_acks_taken, su_taken]; exact w.N8), (by simp only [y_N_taken, y_C_taken, y_fr_taken, y_to_taken, y_tol_taken, y_sum_taken, y_rows_taken, y_ended_taken, y_latest_taken, y_q_taken, y_log_taken, y_fin_taken, y_stand_taken, y_over_taken, y_held_taken, y_M_taken, y_cond_taken, y_pos_taken, y_came_taken, y_kept_taken, y_kEnd_taken, y_kSum_taken, y_kRows_taken, y_fails_taken, y_acks_taken, su_taken]; exact w.C), (by simp only [y_N_taken, y_C_taken, y_fr_taken, y_to_taken, y_tol_taken, y_sum_taken, y_rows_taken, y_ended_taken, y_latest_taken, y_q_taken, y_log_taken, y_fin_taken, y_stand_taken, y_over_taken, y_held_taken, y_M_taken, y_cond_taken, y_pos_taken, y_came_taken, y_kept_taken, y_kEnd_taken, y_kSum_taken, y_kRows_taken, y_fails_taken, y_acks_taken, su_taken]; exact w.M), (by simp only [y_N_taken, y_C_taken, y_fr_taken, y_to_taken, y_tol_taken, y_sum_taken, y_rows_taken, y_ended_taken, y_latest_taken, y_q_taken, y_log_taken, y_fin_taken, y_stand_taken, y_over_taken, y_held_taken, y_M_taken, y_cond_taken, y_pos_taken, y_came_taken, y_kept_taken, y_kEnd_taken, y_kSum_taken, y_kRows_taken, y_fails_taken, y_acks_taken, su_taken]; exact fun c => w.to), (by simp only [y_N_taken, y_C_taken, y_fr_taken, y_to_taken, y_tol_taken, y_sum_taken, y_rows_taken, y_ended_taken, y_latest_taken, y_q_taken, y_log_taken, y_fin_taken, y_stand_taken, y_over_taken, y_held_taken, y_M_taken, y_cond_taken, y_pos_taken, y_came_taken, y_kept_taken, y_kEnd_taken, y_kSum_taken, y_kRows_taken, y_fails_taken, y_acks_taken, su_taken]; exact fun c k => w.fr), (by simp only [y_N_taken, y_C_taken, y_fr_taken, y_to_taken, y_tol_taken, y_sum_taken, y_rows_taken, y_ended_taken, y_latest_taken, y_q_taken, y_log_taken, y_fin_taken, y_stand_taken, y_over_taken, y_held_taken, y_M_taken, y_cond_taken, y_pos_taken, y_came_taken, y_kept_taken, y_kEnd_taken, y_kSum_taken, y_kRows_taken, y_fails_taken, y_acks_taken, su_taken]; exact w.q), (by simp only [y_N_taken, y_C_taken, y_fr_taken, y_to_taken, y_tol_taken, y_sum_taken, y_rows_taken, y_ended_taken, y_latest_taken, y_q_taken, y_log_taken, y_fin_taken, y_stand_taken, y_over_taken, y_held_taken, y_M_taken, y_cond_taken, y_pos_taken, y_came_taken, y_kept_taken, y_kEnd_taken, y_kSum_taken, y_kRows_taken, y_fails_taken, y_acks_taken, su_taken]; exact w.log), (by simp only [y_N_taken, y_C_taken, y_fr_taken, y_to_taken, y_tol_taken, y_sum_taken, y_rows_taken, y_ended_taken, y_latest_taken, y_q_taken, y_log_taken, y_fin_taken, y_stand_taken, y_over_taken, y_held_taken, y_M_taken, y_cond_taken, y_pos_taken, y_came_taken, y_kept_taken, y_kEnd_taken, y_kSum_taken, y_kRows_taken, y_fails_taken, y_acks_taken, su_taken]; exact w.stand), (by simp only [y_N_taken, y_C_taken, y_fr_taken, y_to_taken, y_tol_taken, y_sum_taken, y_rows_taken, y_ended_taken, y_latest_taken, y_q_taken, y_log_taken, y_fin_taken, y_stand_taken, y_over_taken, y_held_taken, y_M_taken, y_cond_taken, y_pos_taken, y_came_taken, y_kept_taken, y_kEnd_taken, y_kSum_taken, y_kRows_taken, y_fails_taken, y_acks_taken, su_taken]; exact fun c k => w.held), (by simp only [y_N_taken, y_C_taken, y_fr_taken, y_to_taken, y_tol_taken, y_sum_taken, y_rows_taken, y_ended_taken, y_latest_taken, y_q_taken, y_log_taken, y_fin_taken, y_stand_taken, y_over_taken, y_held_taken, y_M_taken, y_cond_taken, y_pos_taken, y_came_taken, y_kept_taken, y_kEnd_taken, y_kSum_taken, y_kRows_taken, y_fails_taken, y_acks_taken, su_taken]; exact fun x k => w.latest), (by simp only [y_N_taken, y_C_taken, y_fr_taken, y_to_taken, y_tol_taken, y_sum_taken, y_rows_taken, y_ended_taken, y_latest_taken, y_q_taken, y_log_taken, y_fin_taken, y_stand_taken, y_over_taken, y_held_taken, y_M_taken, y_cond_taken, y_pos_taken, y_came_taken, y_kept_taken, y_kEnd_taken, y_kSum_taken, y_kRows_taken, y_fails_taken, y_acks_taken, su_taken]; exact fun z => w.acks), (by simp only [y_N_taken, y_C_taken, y_fr_taken, y_to_taken, y_tol_taken, y_sum_taken, y_rows_taken, y_ended_taken, y_latest_taken, y_q_taken, y_log_taken, y_fin_taken, y_stand_taken, y_over_taken, y_held_taken, y_M_taken, y_cond_taken, y_pos_taken, y_came_taken, y_kept_taken, y_kEnd_taken, y_kSum_taken, y_kRows_taken, y_fails_taken, y_acks_taken, su_taken]; exact w.ackn), (by simp only [y_N_taken, y_C_taken, y_fr_taken, y_to_taken, y_tol_taken, y_sum_taken, y_rows_taken, y_ended_taken, y_latest_taken, y_q_taken, y_log_taken, y_fin_taken, y_stand_taken, y_over_taken, y_held_taken, y_M_taken, y_cond_taken, y_pos_taken, y_came_taken, y_kept_taken, y_kEnd_taken, y_kSum_taken, y_kRows_taken, y_fails_taken, y_acks_taken, su_taken]; exact w.cond), (by simp only [y_N_taken, y_C_taken, y_fr_taken, y_to_taken, y_tol_taken, y_sum_taken, y_rows_taken, y_ended_taken, y_latest_taken, y_q_taken, y_log_taken, y_fin_taken, y_stand_taken, y_over_taken, y_held_taken, y_M_taken, y_cond_taken, y_pos_taken, y_came_taken, y_kept_taken, y_kEnd_taken, y_kSum_taken, y_kRows_taken, y_fails_taken, y_acks_taken, su_taken]; exact w.pos), (by simp only [y_N_taken, y_C_taken, y_fr_taken, y_to_taken, y_tol_taken, y_sum_taken, y_rows_taken, y_ended_taken, y_latest_taken, y_q_taken, y_log_taken, y_fin_taken, y_stand_taken, y_over_taken, y_held_taken, y_M_taken, y_cond_taken, y_pos_taken, y_came_taken, y_kept_taken, y_kEnd_taken, y_kSum_taken, y_kRows_taken, y_fails_taken, y_acks_taken, su_taken]; exact fun c z => w.kin), (by simp only [y_N_taken, y_C_taken, y_fr_taken, y_to_taken, y_tol_taken, y_sum_taken, y_rows_taken, y_ended_taken, y_latest_taken, y_q_taken, y_log_taken, y_fin_taken, y_stand_taken, y_over_taken, y_held_taken, y_M_taken, y_cond_taken, y_pos_taken, y_came_taken, y_kept_taken, y_kEnd_taken, y_kSum_taken, y_kRows_taken, y_fails_taken, y_acks_taken, su_taken]; exact fun c z => w.bar), (by simp only [y_N_taken, y_C_taken, y_fr_taken, y_to_taken, y_tol_taken, y_sum_taken, y_rows_taken, y_ended_taken, y_latest_taken, y_q_taken, y_log_taken, y_fin_taken, y_stand_taken, y_over_taken, y_held_taken, y_M_taken, y_cond_taken, y_pos_taken, y_came_taken, y_kept_taken, y_kEnd_taken, y_kSum_taken, y_kRows_taken, y_fails_taken, y_acks_taken, su_taken]; exact fun c => w.src)⟩
theorem fB_markAt_g {Mf : Nat → Nat} {due : Nat → List Nat} (g : ClsG e t s Mf due) (w : Wf s) {m : Nat} (hm : m < s_M s) : fB_markAt (pv e t) n (pL e 0 0 0) (nI m) = some (.inl (some (.ref (pL e 5 m 0))), pv e t, n) := by
  have hN1 := w.N1; have hN8 := w.N8; have hC := w.C; have hM := w.M; have hA := w.ackn
  have o0 := g.o0
  have hN : s_N s < 2 ^ 31 := by omega
  have q0 : ¬ nI m < 0 := nI_nn (by omega)
  have h7 := g.B.2.1
  have r3 := g.r3 hm
  unfold fB_markAt
  simp (disch := first | assumption | omega | exact b2i_01 _ | exact Or.inl rfl | exact Or.inr rfl) only [b0 o0, f0_0 o0, f0_1 o0, f0_2 o0, f0_3 o0, f0_4 o0, f0_5 o0, f0_6 o0, p0_6 o0, f0_7 o0, p0_7 o0, f0_8 o0, p0_8 o0, f0_9 o0, p0_9 o0, a0_1 o0, g0_2 o0, a0_2 o0, g0_3 o0, a0_3 o0, a0_4 o0, a0_5 o0, g0_1 o0 hN, g0_4 o0 hN, s0_4 o0 hN, g0_5 o0 hN, s0_5 o0 hN, rI_uI, rI_uJ, rI_uR, rI_wI, rI_wJ, rJ_uJ, rJ_uI, rJ_uR, rJ_wI, rJ_wJ, rR_uR, rR_uI, rR_uJ, rR_wI, rR_wJ, qI_wI, qI_wJ, qI_uI, qI_uJ, qI_uR, qJ_wJ, qJ_wI, qJ_uI, qJ_uJ, qJ_uR, Option.bind_some, zcV_s, zcI_s, zcL_s, zrI, zrV, zrL, nI_mul8, nI_mul16, nI_mul200, nI_1, eq_self, Nat.reduceEqDiff, and_true, true_and, and_false, false_and, and_self, ite_true, ite_false, ↓reduceIte, Nat.add_zero, if_true, if_false, b2i_t, b2i_f, o2i_s, o2i_n, zdI_s, zdV_s, zdL_s, zcR_s, zcV_x, zcI_x, zcL_x, zcR_x, zrR_s, zth_s, nI_leI, nI_ltI, nI_eq, nI_eq0, nI_eqm1, b2i_eq0, q0, h7, hm, r3]
set_option maxHeartbeats 2000000 in
theorem fB_keeperTurn_eq (g : Cls e t s) (w : Wf s) : ∃ t', fB_keeperTurn (pv e t) n (pL e 0 0 0) = some (.inl (some (.int (nI (keeperS s).1))), pv e t', n) ∧ Cls e t' (keeperS s).2 ∧ Fr PC t t' := by
  have hN1 := w.N1; have hN8 := w.N8; have hC := w.C; have hM := w.M; have hA := w.ackn
  have o0 := g.o0
  have o1 := g.o1
  have hN : s_N s < 2 ^ 31 := by omega
  obtain ⟨fi, f1, f2, f3, f4, f5⟩ := g.A
  cases hk : s_acks s with
  | nil =>
    have e1 : keeperS s = (0, s) := by unfold keeperS; rw [hk]
    have e2 : qI t 1 0 3 = 0 := by rw [f3, hk]; rfl
    rw [e1]
    unfold fB_keeperTurn
    simp (disch := first | assumption | omega | exact b2i_01 _ | exact Or.inl rfl | exact Or.inr rfl) only [b0 o0, f0_0 o0, f0_1 o0, f0_2 o0, f0_3 o0, f0_4 o0, f0_5 o0, f0_6 o0, p0_6 o0, f0_7 o0, p0_7 o0, f0_8 o0, p0_8 o0, f0_9 o0, p0_9 o0, a0_1 o0, g0_2 o0, a0_2 o0, g0_3 o0, a0_3 o0, a0_4 o0, a0_5 o0, g0_1 o0 hN, g0_4 o0 hN, s0_4 o0 hN, g0_5 o0 hN, s0_5 o0 hN, b1 o1, f1_0 o1, f1_1 o1, f1_2 o1, p1_2 o1, f1_3 o1, p1_3 o1, g1_1 o1, a1_1 o1, s1_1 o1, g1_2 o1, a1_2 o1, s1_2 o1, rI_uI, rI_uJ, rI_uR, rI_wI, rI_wJ, rJ_uJ, rJ_uI, rJ_uR, rJ_wI, rJ_wJ, rR_uR, rR_uI, rR_uJ, rR_wI, rR_wJ, qI_wI, qI_wJ, qI_uI, qI_uJ, qI_uR, qJ_wJ, qJ_wI, qJ_uI, qJ_uJ, qJ_uR, Option.bind_some, zcV_s, zcI_s, zcL_s, zrI, zrV, zrL, nI_mul8, nI_mul16, nI_mul200, nI_1, eq_self, Nat.reduceEqDiff, and_true, true_and, and_false, false_and, and_self, ite_true, ite_false, ↓reduceIte, Nat.add_zero, if_true, if_false, b2i_t, b2i_f, o2i_s, o2i_n, zdI_s, zdV_s, zdL_s, zcR_s, zcV_x, zcI_x, zcL_x, zcR_x, zrR_s, zth_s, nI_leI, nI_ltI, nI_eq, nI_eq0, nI_eqm1, b2i_eq0, e2]
    exact ⟨t, rfl, g, Fr.refl _ _⟩
  | cons z r =>
    obtain ⟨m, x⟩ := z
    obtain ⟨hm, hx⟩ := w.acks (z := (m, x)) (by rw [hk]; exact List.mem_cons_self)
    have hm : m < s_M s := hm
    have hx : x < s_N s := hx
    have hAc := g.A
    rw [hk] at hAc
    have q3 : ¬ qI t 1 0 3 = 0 := by
      rw [f3, nI_eq0 (by omega), hk, List.length_cons]
      omega
    have k1 := fK_firstMark_eq (n := n) o1 hAc
    have k2 := fK_firstTask_eq (n := n) o1 hAc
    obtain ⟨t1, h1, A1, F1⟩ := fK_dropFirst_eq (n := n) o1 hAc
    have g1 : Cls e t1 (u_acks s r) := by
      unfold Cls
      rw [y_M_acks, d_dueS_acks]
      exact ClsG.uacks g F1 A1
    have w1 := w.uacks hk
    have mk := fB_markAt_g (n := n) g w hm
    have o5 := g.o5 hm
    obtain ⟨mm0, mm1, mm2, mm3, mm4, mm5, mm6, mm7, mm8⟩ := ClsG.M g1 m hm
    rw [y_cond_acks] at mm8
    rw [d_countS_acks] at mm7
    have mm3x : rI t1 5 m 3 x = b2i (s_taken s m x) := mm3 x hx
    have hc2 := w.cond m
    have hcl := countS_le s m
    rw [keeperS_eq s hk]
    dsimp only
    by_cases q1 : s_cond s m = 0
    · cases q2 : s_taken s m x with
      | true =>
        have qq : s_cond (u_acks s r) m ≠ 0 ∨ s_taken (u_acks s r) m x = true := Or.inr q2
        rw [if_pos qq, if_pos qq]
        refine ⟨t1, ?_, g1, F1.c (by decide)⟩
        unfold fB_keeperTurn
        rw [q2] at mm3x
        simp (disch := first | assumption | omega | exact b2i_01 _ | exact Or.inl rfl | exact Or.inr rfl) only [b0 o0, f0_0 o0, f0_1 o0, f0_2 o0, f0_3 o0, f0_4 o0, f0_5 o0, f0_6 o0, p0_6 o0, f0_7 o0, p0_7 o0, f0_8 o0, p0_8 o0, f0_9 o0, p0_9 o0, a0_1 o0, g0_2 o0, a0_2 o0, g0_3 o0, a0_3 o0, a0_4 o0, a0_5 o0, g0_1 o0 hN, g0_4 o0 hN, s0_4 o0 hN, g0_5 o0 hN, s0_5 o0 hN, b1 o1, f1_0 o1, f1_1 o1, f1_2 o1, p1_2 o1, f1_3 o1, p1_3 o1, g1_1 o1, a1_1 o1, s1_1 o1, g1_2 o1, a1_2 o1, s1_2 o1, b5 o5, f5_0 o5, p5_0 o5, f5_1 o5, f5_2 o5, f5_3 o5, f5_4 o5, f5_5 o5, f5_6 o5, f5_7 o5, p5_7 o5, f5_8 o5, p5_8 o5, a5_1 o5, a5_2 o5, a5_3 o5, a5_4 o5, a5_5 o5, a5_6 o5, g5_1 o5 hN, s5_1 o5 hN, g5_2 o5 hN, s5_2 o5 hN, g5_3 o5 hN, s5_3 o5 hN, g5_4 o5 hN, s5_4 o5 hN, g5_5 o5 hN, s5_5 o5 hN, g5_6 o5 hN, s5_6 o5 hN, rI_uI, rI_uJ, rI_uR, rI_wI, rI_wJ, rJ_uJ, rJ_uI, rJ_uR, rJ_wI, rJ_wJ, rR_uR, rR_uI, rR_uJ, rR_wI, rR_wJ, qI_wI, qI_wJ, qI_uI, qI_uJ, qI_uR, qJ_wJ, qJ_wI, qJ_uI, qJ_uJ, qJ_uR, Option.bind_some, zcV_s, zcI_s, zcL_s, zrI, zrV, zrL, nI_mul8, nI_mul16, nI_mul200, nI_1, eq_self, Nat.reduceEqDiff, and_true, true_and, and_false, false_and, and_self, ite_true, ite_false, ↓reduceIte, Nat.add_zero, if_true, if_false, b2i_t, b2i_f, o2i_s, o2i_n, zdI_s, zdV_s, zdL_s, zcR_s, zcV_x, zcI_x, zcL_x, zcR_x, zrR_s, zth_s, nI_leI, nI_ltI, nI_eq, nI_eq0, nI_eqm1, b2i_eq0, q3, k1, k2, mk, h1, mm8, q1, mm3x, nI0, i10]
        rfl
      | false =>
        have qq : ¬ (s_cond (u_acks s r) m ≠ 0 ∨ s_taken (u_acks s r) m x = true) := by
          rw [y_cond_acks, y_taken_acks, q1, q2]; simp
        rw [if_neg qq, if_neg qq]
        have g2 := Cls.utaken g1 (m := m) (x := x) hm hx q2
        have w2 := w1.utaken (g := fu2 (s_taken (u_acks s r)) m x true)
        have hinc := countS_inc (s := u_acks s r) (m := m) (x := x) hx q2
        rw [d_countS_acks] at hinc g2
        rw [hinc, y_N_acks]
        rw [q2] at mm3x
        have F2 : Fr PC t1 (wI (uI t1 5 m 3 (fu (rI t1 5 m 3) x 1)) 5 m 7 (nI (countS s m + 1))) := (Fr.wI (po 5 m) (Fr.uI (po 5 m) (Fr.refl _ _))).c (by decide)
        by_cases q4 : countS s m + 1 < s_N s
        · rw [if_pos q4, if_pos q4]
          refine ⟨_, ?_, g2, (F1.c (by decide)).trans F2⟩
          have q5 : ¬ s_N s ≤ countS s m + 1 := by omega
          unfold fB_keeperTurn
          generalize fB_completeMark = G
          simp (disch := first | assumption | omega | exact b2i_01 _ | exact Or.inl rfl | exact Or.inr rfl) only [b0 o0, f0_0 o0, f0_1 o0, f0_2 o0, f0_3 o0, f0_4 o0, f0_5 o0, f0_6 o0, p0_6 o0, f0_7 o0, p0_7 o0, f0_8 o0, p0_8 o0, f0_9 o0, p0_9 o0, a0_1 o0, g0_2 o0, a0_2 o0, g0_3 o0, a0_3 o0, a0_4 o0, a0_5 o0, g0_1 o0 hN, g0_4 o0 hN, s0_4 o0 hN, g0_5 o0 hN, s0_5 o0 hN, b1 o1, f1_0 o1, f1_1 o1, f1_2 o1, p1_2 o1, f1_3 o1, p1_3 o1, g1_1 o1, a1_1 o1, s1_1 o1, g1_2 o1, a1_2 o1, s1_2 o1, b5 o5, f5_0 o5, p5_0 o5, f5_1 o5, f5_2 o5, f5_3 o5, f5_4 o5, f5_5 o5, f5_6 o5, f5_7 o5, p5_7 o5, f5_8 o5, p5_8 o5, a5_1 o5, a5_2 o5, a5_3 o5, a5_4 o5, a5_5 o5, a5_6 o5, g5_1 o5 hN, s5_1 o5 hN, g5_2 o5 hN, s5_2 o5 hN, g5_3 o5 hN, s5_3 o5 hN, g5_4 o5 hN, s5_4 o5 hN, g5_5 o5 hN, s5_5 o5 hN, g5_6 o5 hN, s5_6 o5 hN, rI_uI, rI_uJ, rI_uR, rI_wI, rI_wJ, rJ_uJ, rJ_uI, rJ_uR, rJ_wI, rJ_wJ, rR_uR, rR_uI, rR_uJ, rR_wI, rR_wJ, qI_wI, qI_wJ, qI_uI, qI_uJ, qI_uR, qJ_wJ, qJ_wI, qJ_uI, qJ_uJ, qJ_uR, Option.bind_some, zcV_s, zcI_s, zcL_s, zrI, zrV, zrL, nI_mul8, nI_mul16, nI_mul200, nI_1, eq_self, Nat.reduceEqDiff, and_true, true_and, and_false, false_and, and_self, ite_true, ite_false, ↓reduceIte, Nat.add_zero, if_true, if_false, b2i_t, b2i_f, o2i_s, o2i_n, zdI_s, zdV_s, zdL_s, zcR_s, zcV_x, zcI_x, zcL_x, zcR_x, zrR_s, zth_s, nI_leI, nI_ltI, nI_eq, nI_eq0, nI_eqm1, b2i_eq0, q3, k1, k2, mk, h1, mm8, q1, mm3x, mm7, nI0, upd_fu, q5]
          rfl
        · rw [if_neg q4, if_neg q4]
          obtain ⟨t3, h3, g3, F3⟩ := fB_stopMark_eq (n := n) (m := m) (how := 1) g2 w2 hm (by rw [y_cond_taken, y_cond_acks]; exact q1) (by omega) (by omega)
          have h3' : fB_stopMark (pv e (wI (uI t1 5 m 3 (fu (rI t1 5 m 3) x 1)) 5 m 7 (nI (countS s m + 1)))) n (pL e 0 0 0) (some (pL e 5 m 0)) 1 = some (.inl none, pv e t3, n) := h3
          obtain ⟨t4, h4, g4, F4⟩ := fB_completeMark_8_eq (n := n) (w2.close (m := m) (how := 1) (by omega)) (m := m) (by rw [z_closeS_M]; exact hm) m 0 t3 zF (by omega) (zF_big (by omega)) g3
          have h4' : fB_completeMark_8 zF (pv e t3) n (pL e 0 0 0) (some (pL e 5 m 0)) 0 = some (.inl none, pv e t4, n) := h4
          refine ⟨t4, ?_, g4, (F1.c (by decide)).trans (F2.trans (F3.trans F4))⟩
          have q5 : s_N s ≤ countS s m + 1 := by omega
          unfold fB_keeperTurn fB_completeMark
          generalize fB_completeMark_8 zF = G at h4' ⊢
          simp (disch := first | assumption | omega | exact b2i_01 _ | exact Or.inl rfl | exact Or.inr rfl) only [b0 o0, f0_0 o0, f0_1 o0, f0_2 o0, f0_3 o0, f0_4 o0, f0_5 o0, f0_6 o0, p0_6 o0, f0_7 o0, p0_7 o0, f0_8 o0, p0_8 o0, f0_9 o0, p0_9 o0, a0_1 o0, g0_2 o0, a0_2 o0, g0_3 o0, a0_3 o0, a0_4 o0, a0_5 o0, g0_1 o0 hN, g0_4 o0 hN, s0_4 o0 hN, g0_5 o0 hN, s0_5 o0 hN, b1 o1, f1_0 o1, f1_1 o1, f1_2 o1, p1_2 o1, f1_3 o1, p1_3 o1, g1_1 o1, a1_1 o1, s1_1 o1, g1_2 o1, a1_2 o1, s1_2 o1, b5 o5, f5_0 o5, p5_0 o5, f5_1 o5, f5_2 o5, f5_3 o5, f5_4 o5, f5_5 o5, f5_6 o5, f5_7 o5, p5_7 o5, f5_8 o5, p5_8 o5, a5_1 o5, a5_2 o5, a5_3 o5, a5_4 o5, a5_5 o5, a5_6 o5, g5_1 o5 hN, s5_1 o5 hN, g5_2 o5 hN, s5_2 o5 hN, g5_3 o5 hN, s5_3 o5 hN, g5_4 o5 hN, s5_4 o5 hN, g5_5 o5 hN, s5_5 o5 hN, g5_6 o5 hN, s5_6 o5 hN, rI_uI, rI_uJ, rI_uR, rI_wI, rI_wJ, rJ_uJ, rJ_uI, rJ_uR, rJ_wI, rJ_wJ, rR_uR, rR_uI, rR_uJ, rR_wI, rR_wJ, qI_wI, qI_wJ, qI_uI, qI_uJ, qI_uR, qJ_wJ, qJ_wI, qJ_uI, qJ_uJ, qJ_uR, Option.bind_some, zcV_s, zcI_s, zcL_s, zrI, zrV, zrL, nI_mul8, nI_mul16, nI_mul200, nI_1, eq_self, Nat.reduceEqDiff, and_true, true_and, and_false, false_and, and_self, ite_true, ite_false, ↓reduceIte, Nat.add_zero, if_true, if_false, b2i_t, b2i_f, o2i_s, o2i_n, zdI_s, zdV_s, zdL_s, zcR_s, zcV_x, zcI_x, zcL_x, zcR_x, zrR_s, zth_s, nI_leI, nI_ltI, nI_eq, nI_eq0, nI_eqm1, b2i_eq0, q3, k1, k2, mk, h1, mm8, q1, mm3x, mm7, nI0, upd_fu, q5, h3', h4']
          rfl
    · have qq : s_cond (u_acks s r) m ≠ 0 ∨ s_taken (u_acks s r) m x = true := Or.inl q1
      rw [if_pos qq, if_pos qq]
      refine ⟨t1, ?_, g1, F1.c (by decide)⟩
      unfold fB_keeperTurn
      simp (disch := first | assumption | omega | exact b2i_01 _ | exact Or.inl rfl | exact Or.inr rfl) only [b0 o0, f0_0 o0, f0_1 o0, f0_2 o0, f0_3 o0, f0_4 o0, f0_5 o0, f0_6 o0, p0_6 o0, f0_7 o0, p0_7 o0, f0_8 o0, p0_8 o0, f0_9 o0, p0_9 o0, a0_1 o0, g0_2 o0, a0_2 o0, g0_3 o0, a0_3 o0, a0_4 o0, a0_5 o0, g0_1 o0 hN, g0_4 o0 hN, s0_4 o0 hN, g0_5 o0 hN, s0_5 o0 hN, b1 o1, f1_0 o1, f1_1 o1, f1_2 o1, p1_2 o1, f1_3 o1, p1_3 o1, g1_1 o1, a1_1 o1, s1_1 o1, g1_2 o1, a1_2 o1, s1_2 o1, b5 o5, f5_0 o5, p5_0 o5, f5_1 o5, f5_2 o5, f5_3 o5, f5_4 o5, f5_5 o5, f5_6 o5, f5_7 o5, p5_7 o5, f5_8 o5, p5_8 o5, a5_1 o5, a5_2 o5, a5_3 o5, a5_4 o5, a5_5 o5, a5_6 o5, g5_1 o5 hN, s5_1 o5 hN, g5_2 o5 hN, s5_2 o5 hN, g5_3 o5 hN, s5_3 o5 hN, g5_4 o5 hN, s5_4 o5 hN, g5_5 o5 hN, s5_5 o5 hN, g5_6 o5 hN, s5_6 o5 hN, rI_uI, rI_uJ, rI_uR, rI_wI, rI_wJ, rJ_uJ, rJ_uI, rJ_uR, rJ_wI, rJ_wJ, rR_uR, rR_uI, rR_uJ, rR_wI, rR_wJ, qI_wI, qI_wJ, qI_uI, qI_uJ, qI_uR, qJ_wJ, qJ_wI, qJ_uI, qJ_uJ, qJ_uR, Option.bind_some, zcV_s, zcI_s, zcL_s, zrI, zrV, zrL, nI_mul8, nI_mul16, nI_mul200, nI_1, eq_self, Nat.reduceEqDiff, and_true, true_and, and_false, false_and, and_self, ite_true, ite_false, ↓reduceIte, Nat.add_zero, if_true, if_false, b2i_t, b2i_f, o2i_s, o2i_n, zdI_s, zdV_s, zdL_s, zcR_s, zcV_x, zcI_x, zcL_x, zcR_x, zrR_s, zth_s, nI_leI, nI_ltI, nI_eq, nI_eq0, nI_eqm1, b2i_eq0, q3, k1, k2, mk, h1, mm8, q1]
      rfl
end PO
