/-! the class: endTask, keepFor, taskTurn -/
section PO
variable {e : pE} {t t' : pS} {s : zSt} {n : Nat}
theorem kA_cond (s : zSt) (x k : Nat) : s_cond (keepAll x k s) = s_cond s := by
  induction k with
  | zero => rfl
  | succ k ih =>
    rw [keepAll_s]
    split
    · rw [z_keepS_cond]; exact ih
    · exact ih
theorem kA_kept (s : zSt) (x k : Nat) {j : Nat} (hj : k ≤ j) : s_kept (keepAll x k s) j = s_kept s j := by
  induction k with
  | zero => rfl
  | succ k ih =>
    rw [keepAll_s]
    split
    · rw [z_keepS_kept, fu2_ne _ _ _ (by omega)]; exact ih (by omega)
    · exact ih (by omega)
theorem dueS_keep (s : zSt) (m x : Nat) : dueS (keepS s m x) = dueS s := by
  funext c
  unfold dueS
  rw [z_keepS_M, z_keepS_cond, z_keepS_came]
def nkF (s : zSt) (x m : Nat) : Bool := s_cond s m == 0 && !s_kept s m x
theorem kA_acks (s : zSt) (x k : Nat) : (s_acks (keepAll x k s)).length = (s_acks s).length + ((List.range k).filter (nkF s x)).length := by
  induction k with
  | zero => rfl
  | succ k ih =>
    rw [keepAll_s, List.range_succ, List.filter_append, List.length_append]
    by_cases q : s_cond (keepAll x k s) k = 0 ∧ s_kept (keepAll x k s) k x = false
    · rw [if_pos q, z_keepS_acks, List.length_append, ih]
      rw [kA_cond, kA_kept s x k (Nat.le_refl _)] at q
      rw [List.filter_cons_of_pos (by unfold nkF; rw [q.1, q.2]; rfl)]
      show _ + 1 = _ + (_ + 1)
      rw [Nat.add_assoc]
    · rw [if_neg q, ih]
      rw [kA_cond, kA_kept s x k (Nat.le_refl _)] at q
      rw [List.filter_cons_of_neg (fun z => q (by
        unfold nkF at z
        rw [Bool.and_eq_true, beq_iff_eq, Bool.not_eq_true'] at z
        exact z))]
      rfl
theorem kA_room {x k : Nat} (hk : k < s_M s) (h : nkF s x k = true) (hA : (s_acks s).length + (NKs s x).length ≤ 520) : (s_acks (keepAll x k s)).length < 520 := by
  rw [kA_acks]
  have e1 : NKs s x = (List.range (s_M s)).filter (nkF s x) := rfl
  have e2 : (List.range (k + 1)).Sublist (List.range (s_M s)) := List.range_sublist.mpr (by omega)
  have e3 := (e2.filter (nkF s x)).length_le
  rw [List.range_succ, List.filter_append, List.length_append, List.filter_cons_of_pos h, List.length_cons] at e3
  rw [e1] at hA
  omega
set_option maxHeartbeats 2000000 in
theorem fB_endTask_13_eq (w : Wf s) {x : Nat} (hx : x < s_N s) (hA9 : (s_acks s).length + (NKs s x).length ≤ 520) : ∀ (d c : Nat) (t : pS) (f : Nat), c + d = s_M s → d < f → Cls e t (keepAll x c s) → ∃ t', fB_endTask_13 f (pv e t) n (pL e 0 0 0) (some (pL e 2 x 0)) (nI c) = some (.inl (some (.int 6)), pv e t', n) ∧ Cls e t' (keepAll x (s_M s) s) ∧ Fr PC t t' := by
  have hN8 := w.N8; have hM := w.M
  intro d
  induction d with
  | zero =>
    intro c t f hc hf g
    obtain ⟨f, rfl⟩ : ∃ g, f = g + 1 := ⟨f - 1, by omega⟩
    obtain rfl : c = s_M s := by omega
    have o0 := ClsG.o0 g
    have hN : s_N (keepAll x (s_M s) s) < 2 ^ 31 := by rw [kA_N]; omega
    have h7 := (ClsG.B g).2.1
    rw [kA_M] at h7
    unfold fB_endTask_13
    simp (disch := first | assumption | omega | exact b2i_01 _ | exact Or.inl rfl | exact Or.inr rfl) only [b0 o0, f0_0 o0, f0_1 o0, f0_2 o0, f0_3 o0, f0_4 o0, f0_5 o0, f0_6 o0, p0_6 o0, f0_7 o0, p0_7 o0, f0_8 o0, p0_8 o0, f0_9 o0, p0_9 o0, a0_1 o0, g0_2 o0, a0_2 o0, g0_3 o0, a0_3 o0, a0_4 o0, a0_5 o0, g0_1 o0 hN, g0_4 o0 hN, s0_4 o0 hN, g0_5 o0 hN, s0_5 o0 hN, rI_uI, rI_uJ, rI_uR, rI_wI, rI_wJ, rJ_uJ, rJ_uI, rJ_uR, rJ_wI, rJ_wJ, rR_uR, rR_uI, rR_uJ, rR_wI, rR_wJ, qI_wI, qI_wJ, qI_uI, qI_uJ, qI_uR, qJ_wJ, qJ_wI, qJ_uI, qJ_uJ, qJ_uR, Option.bind_some, zcV_s, zcI_s, zcL_s, zrI, zrV, zrL, nI_mul8, nI_mul16, nI_mul200, nI_1, eq_self, Nat.reduceEqDiff, and_true, true_and, and_false, false_and, and_self, ite_true, ite_false, ↓reduceIte, Nat.add_zero, if_true, if_false, b2i_t, b2i_f, o2i_s, o2i_n, zdI_s, zdV_s, zdL_s, zcR_s, zcV_x, zcI_x, zcL_x, zcR_x, zrR_s, zth_s, nI_leI, nI_ltI, nI_eq, nI_eq0, nI_eqm1, b2i_eq0, h7, Nat.le_refl]
    exact ⟨t, rfl, g, Fr.refl _ _⟩
  | succ d ih =>
    intro c t f hc hf g
    obtain ⟨f, rfl⟩ : ∃ g, f = g + 1 := ⟨f - 1, by omega⟩
    have q : ¬ s_M s ≤ c := by omega
    have hcM : c < s_M (keepAll x c s) := by rw [kA_M]; omega
    have hxN : x < s_N (keepAll x c s) := by rw [kA_N]; exact hx
    have w2 : Wf (keepAll x c s) := w.kA hx (by omega) (by omega)
    have hcd := w2.cond c
    have o0 := ClsG.o0 g
    have o5 := ClsG.o5 g hcM
    have o2 := ClsG.o2 g hxN
    have hN : s_N (keepAll x c s) < 2 ^ 31 := by rw [kA_N]; omega
    have h7 := (ClsG.B g).2.1
    rw [kA_M] at h7
    have r3 := ClsG.r3 g hcM
    obtain ⟨mm0, mm1, mm2, mm3, mm4, mm5, mm6, mm7, mm8⟩ := ClsG.M g c hcM
    have mx : rI t 5 c 1 x = b2i (s_kept (keepAll x c s) c x) := mm1 x hxN
    have t0 := (ClsG.T g x hxN).1
    have hc40 : c < 40 := by omega
    by_cases hq : s_cond (keepAll x c s) c = 0
    · cases hq2 : s_kept (keepAll x c s) c x with
      | false =>
        have hnk : nkF s x c = true := by
          unfold nkF
          rw [← kA_cond s x c, ← kA_kept s x c (Nat.le_refl c), hq, hq2]
          rfl
        obtain ⟨t1, h1, g1, F1⟩ := fB_keepAndAck_eq (n := n) g w2 hcM hxN (kA_room (by omega) hnk hA9)
        have g1' : Cls e t1 (keepS (keepAll x c s) c x) := by
          unfold Cls
          rw [z_keepS_M, dueS_keep]
          exact g1
        obtain ⟨t3, h3, g3, F3⟩ := ih (c + 1) t1 f (by omega) (by omega) (by rw [keepAll_s, if_pos ⟨hq, hq2⟩]; exact g1')
        refine ⟨t3, ?_, g3, F1.trans F3⟩
        rw [← h3]
        rw [hq2] at mx
        generalize hR : fB_endTask_13 f = R
        unfold fB_endTask_13 fB_endTask_61
        rw [hR]
        simp (disch := first | assumption | omega | exact b2i_01 _ | exact Or.inl rfl | exact Or.inr rfl) only [b0 o0, f0_0 o0, f0_1 o0, f0_2 o0, f0_3 o0, f0_4 o0, f0_5 o0, f0_6 o0, p0_6 o0, f0_7 o0, p0_7 o0, f0_8 o0, p0_8 o0, f0_9 o0, p0_9 o0, a0_1 o0, g0_2 o0, a0_2 o0, g0_3 o0, a0_3 o0, a0_4 o0, a0_5 o0, g0_1 o0 hN, g0_4 o0 hN, s0_4 o0 hN, g0_5 o0 hN, s0_5 o0 hN, b5 o5, f5_0 o5, p5_0 o5, f5_1 o5, f5_2 o5, f5_3 o5, f5_4 o5, f5_5 o5, f5_6 o5, f5_7 o5, p5_7 o5, f5_8 o5, p5_8 o5, a5_1 o5, a5_2 o5, a5_3 o5, a5_4 o5, a5_5 o5, a5_6 o5, g5_1 o5 hN, s5_1 o5 hN, g5_2 o5 hN, s5_2 o5 hN, g5_3 o5 hN, s5_3 o5 hN, g5_4 o5 hN, s5_4 o5 hN, g5_5 o5 hN, s5_5 o5 hN, g5_6 o5 hN, s5_6 o5 hN, b2 o2, f2_0 o2, p2_0 o2, f2_1 o2, f2_2 o2, f2_3 o2, p2_3 o2, f2_4 o2, p2_4 o2, f2_5 o2, p2_5 o2, f2_6 o2, p2_6 o2, f2_7 o2, p2_7 o2, f2_8 o2, p2_8 o2, g2_1 o2, a2_1 o2, g2_2 o2, a2_2 o2, rI_uI, rI_uJ, rI_uR, rI_wI, rI_wJ, rJ_uJ, rJ_uI, rJ_uR, rJ_wI, rJ_wJ, rR_uR, rR_uI, rR_uJ, rR_wI, rR_wJ, qI_wI, qI_wJ, qI_uI, qI_uJ, qI_uR, qJ_wJ, qJ_wI, qJ_uI, qJ_uJ, qJ_uR, Option.bind_some, zcV_s, zcI_s, zcL_s, zrI, zrV, zrL, nI_mul8, nI_mul16, nI_mul200, nI_1, eq_self, Nat.reduceEqDiff, and_true, true_and, and_false, false_and, and_self, ite_true, ite_false, ↓reduceIte, Nat.add_zero, if_true, if_false, b2i_t, b2i_f, o2i_s, o2i_n, zdI_s, zdV_s, zdL_s, zcR_s, zcV_x, zcI_x, zcL_x, zcR_x, zrR_s, zth_s, nI_leI, nI_ltI, nI_eq, nI_eq0, nI_eqm1, b2i_eq0, h7, q, r3, mm8, hq, nI0, t0, mx, h1]
      | true =>
        obtain ⟨t3, h3, g3, F3⟩ := ih (c + 1) t f (by omega) (by omega) (by rw [keepAll_s, if_neg (fun z => by rw [hq2] at z; cases z.2)]; exact g)
        refine ⟨t3, ?_, g3, F3⟩
        rw [← h3]
        rw [hq2] at mx
        generalize hR : fB_endTask_13 f = R
        unfold fB_endTask_13 fB_endTask_61
        rw [hR]
        simp (disch := first | assumption | omega | exact b2i_01 _ | exact Or.inl rfl | exact Or.inr rfl) only [b0 o0, f0_0 o0, f0_1 o0, f0_2 o0, f0_3 o0, f0_4 o0, f0_5 o0, f0_6 o0, p0_6 o0, f0_7 o0, p0_7 o0, f0_8 o0, p0_8 o0, f0_9 o0, p0_9 o0, a0_1 o0, g0_2 o0, a0_2 o0, g0_3 o0, a0_3 o0, a0_4 o0, a0_5 o0, g0_1 o0 hN, g0_4 o0 hN, s0_4 o0 hN, g0_5 o0 hN, s0_5 o0 hN, b5 o5, f5_0 o5, p5_0 o5, f5_1 o5, f5_2 o5, f5_3 o5, f5_4 o5, f5_5 o5, f5_6 o5, f5_7 o5, p5_7 o5, f5_8 o5, p5_8 o5, a5_1 o5, a5_2 o5, a5_3 o5, a5_4 o5, a5_5 o5, a5_6 o5, g5_1 o5 hN, s5_1 o5 hN, g5_2 o5 hN, s5_2 o5 hN, g5_3 o5 hN, s5_3 o5 hN, g5_4 o5 hN, s5_4 o5 hN, g5_5 o5 hN, s5_5 o5 hN, g5_6 o5 hN, s5_6 o5 hN, b2 o2, f2_0 o2, p2_0 o2, f2_1 o2, f2_2 o2, f2_3 o2, p2_3 o2, f2_4 o2, p2_4 o2, f2_5 o2, p2_5 o2, f2_6 o2, p2_6 o2, f2_7 o2, p2_7 o2, f2_8 o2, p2_8 o2, g2_1 o2, a2_1 o2, g2_2 o2, a2_2 o2, rI_uI, rI_uJ, rI_uR, rI_wI, rI_wJ, rJ_uJ, rJ_uI, rJ_uR, rJ_wI, rJ_wJ, rR_uR, rR_uI, rR_uJ, rR_wI, rR_wJ, qI_wI, qI_wJ, qI_uI, qI_uJ, qI_uR, qJ_wJ, qJ_wI, qJ_uI, qJ_uJ, qJ_uR, Option.bind_some, zcV_s, zcI_s, zcL_s, zrI, zrV, zrL, nI_mul8, nI_mul16, nI_mul200, nI_1, eq_self, Nat.reduceEqDiff, and_true, true_and, and_false, false_and, and_self, ite_true, ite_false, ↓reduceIte, Nat.add_zero, if_true, if_false, b2i_t, b2i_f, o2i_s, o2i_n, zdI_s, zdV_s, zdL_s, zcR_s, zcV_x, zcI_x, zcL_x, zcR_x, zrR_s, zth_s, nI_leI, nI_ltI, nI_eq, nI_eq0, nI_eqm1, b2i_eq0, h7, q, r3, mm8, hq, nI0, t0, mx, i10]
    · obtain ⟨t3, h3, g3, F3⟩ := ih (c + 1) t f (by omega) (by omega) (by rw [keepAll_s, if_neg (fun z => hq z.1)]; exact g)
      refine ⟨t3, ?_, g3, F3⟩
      rw [← h3]
      generalize hR : fB_endTask_13 f = R
      unfold fB_endTask_13 fB_endTask_61
      rw [hR]
      simp (disch := first | assumption | omega | exact b2i_01 _ | exact Or.inl rfl | exact Or.inr rfl) only [b0 o0, f0_0 o0, f0_1 o0, f0_2 o0, f0_3 o0, f0_4 o0, f0_5 o0, f0_6 o0, p0_6 o0, f0_7 o0, p0_7 o0, f0_8 o0, p0_8 o0, f0_9 o0, p0_9 o0, a0_1 o0, g0_2 o0, a0_2 o0, g0_3 o0, a0_3 o0, a0_4 o0, a0_5 o0, g0_1 o0 hN, g0_4 o0 hN, s0_4 o0 hN, g0_5 o0 hN, s0_5 o0 hN, b5 o5, f5_0 o5, p5_0 o5, f5_1 o5, f5_2 o5, f5_3 o5, f5_4 o5, f5_5 o5, f5_6 o5, f5_7 o5, p5_7 o5, f5_8 o5, p5_8 o5, a5_1 o5, a5_2 o5, a5_3 o5, a5_4 o5, a5_5 o5, a5_6 o5, g5_1 o5 hN, s5_1 o5 hN, g5_2 o5 hN, s5_2 o5 hN, g5_3 o5 hN, s5_3 o5 hN, g5_4 o5 hN, s5_4 o5 hN, g5_5 o5 hN, s5_5 o5 hN, g5_6 o5 hN, s5_6 o5 hN, b2 o2, f2_0 o2, p2_0 o2, f2_1 o2, f2_2 o2, f2_3 o2, p2_3 o2, f2_4 o2, p2_4 o2, f2_5 o2, p2_5 o2, f2_6 o2, p2_6 o2, f2_7 o2, p2_7 o2, f2_8 o2, p2_8 o2, g2_1 o2, a2_1 o2, g2_2 o2, a2_2 o2, rI_uI, rI_uJ, rI_uR, rI_wI, rI_wJ, rJ_uJ, rJ_uI, rJ_uR, rJ_wI, rJ_wJ, rR_uR, rR_uI, rR_uJ, rR_wI, rR_wJ, qI_wI, qI_wJ, qI_uI, qI_uJ, qI_uR, qJ_wJ, qJ_wI, qJ_uI, qJ_uJ, qJ_uR, Option.bind_some, zcV_s, zcI_s, zcL_s, zrI, zrV, zrL, nI_mul8, nI_mul16, nI_mul200, nI_1, eq_self, Nat.reduceEqDiff, and_true, true_and, and_false, false_and, and_self, ite_true, ite_false, ↓reduceIte, Nat.add_zero, if_true, if_false, b2i_t, b2i_f, o2i_s, o2i_n, zdI_s, zdV_s, zdL_s, zcR_s, zcV_x, zcI_x, zcL_x, zcR_x, zrR_s, zth_s, nI_leI, nI_ltI, nI_eq, nI_eq0, nI_eqm1, b2i_eq0, h7, q, r3, mm8, hq]
theorem Wf.lg (w : Wf s) {x c : Nat} : Wf (letGoS s x c) := by
  refine ⟨(by simp only [z_letGoS_N, z_letGoS_C, z_letGoS_fr, z_letGoS_to, z_letGoS_tol, z_letGoS_sum, z_letGoS_rows, z_letGoS_ended, z_letGoS_latest, z_letGoS_q, z_letGoS_log, z_letGoS_fin, z_letGoS_stand, z_letGoS_over, z_letGoS_held, z_letGoS_M, z_letGoS_cond, z_letGoS_pos, z_letGoS_came, z_letGoS_kept, z_letGoS_kEnd, z_letGoS_kSum, z_letGoS_kRows, z_letGoS_fails, z_letGoS_taken, z_letGoS_acks]; exact w.N1), (by simp only [z_letGoS_N, z_letGoS_C, z_letGoS_fr, z_letGoS_to, z_letGoS_tol, z_letGoS_sum, z_letGoS_rows, z_letGoS_ended, z_letGoS_latest, z_letGoS_q, z_letGoS_log, z_letGoS_fin, z_letGoS_stand, z_letGoS_over, z_letGoS_held, z_letGoS_M, z_letGoS_cond, z_letGoS_pos, z_letGoS_came, z_letGoS_kept, z_letGoS_kEnd, z_letGoS_kSum, z_letGoS_kRows, z_letGoS_fails, z_letGoS_taken, z_letGoS_acks]; exact w.N8), (by simp only [z_letGoS_N, z_letGoS_C, z_letGoS_fr, z_letGoS_to, z_letGoS_tol, z_letGoS_sum, z_letGoS_rows, z_letGoS_ended, z_letGoS_latest, z_letGoS_q, z_letGoS_log, z_letGoS_fin, z_letGoS_stand, z_letGoS_over, z_letGoS_held, z_letGoS_M, z_letGoS_cond, z_letGoS_pos, z_letGoS_came, z_letGoS_kept, z_letGoS_kEnd, z_letGoS_kSum, z_letGoS_kRows, z_letGoS_fails, z_letGoS_taken, z_letGoS_acks]; exact w.C), (by simp only [z_letGoS_N, z_letGoS_C, z_letGoS_fr, z_letGoS_to, z_letGoS_tol, z_letGoS_sum, z_letGoS_rows, z_letGoS_ended, z_letGoS_latest, z_letGoS_q, z_letGoS_log, z_letGoS_fin, z_letGoS_stand, z_letGoS_over, z_letGoS_held, z_letGoS_M, z_letGoS_cond, z_letGoS_pos, z_letGoS_came, z_letGoS_kept, z_letGoS_kEnd, z_letGoS_kSum, z_letGoS_kRows, z_letGoS_fails, z_letGoS_taken, z_letGoS_acks]; exact w.M), (by simp only [z_letGoS_N, z_letGoS_C, z_letGoS_fr, z_letGoS_to, z_letGoS_tol, z_letGoS_sum, z_letGoS_rows, z_letGoS_ended, z_letGoS_latest, z_letGoS_q, z_letGoS_log, z_letGoS_fin, z_letGoS_stand, z_letGoS_over, z_letGoS_held, z_letGoS_M, z_letGoS_cond, z_letGoS_pos, z_letGoS_came, z_letGoS_kept, z_letGoS_kEnd, z_letGoS_kSum, z_letGoS_kRows, z_letGoS_fails, z_letGoS_taken, z_letGoS_acks]; exact fun c => w.to), (by simp only [z_letGoS_N, z_letGoS_C, z_letGoS_fr, z_letGoS_to, z_letGoS_tol, z_letGoS_sum, z_letGoS_rows, z_letGoS_ended, z_letGoS_latest, z_letGoS_q, z_letGoS_log, z_letGoS_fin, z_letGoS_stand, z_letGoS_over, z_letGoS_held, z_letGoS_M, z_letGoS_cond, z_letGoS_pos, z_letGoS_came, z_letGoS_kept, z_letGoS_kEnd, z_letGoS_kSum, z_letGoS_kRows, z_letGoS_fails, z_letGoS_taken, z_letGoS_acks]; exact fun c k => w.fr), (by simp only [z_letGoS_N, z_letGoS_C, z_letGoS_fr, z_letGoS_to, z_letGoS_tol, z_letGoS_sum, z_letGoS_rows, z_letGoS_ended, z_letGoS_latest, z_letGoS_q, z_letGoS_log, z_letGoS_fin, z_letGoS_stand, z_letGoS_over, z_letGoS_held, z_letGoS_M, z_letGoS_cond, z_letGoS_pos, z_letGoS_came, z_letGoS_kept, z_letGoS_kEnd, z_letGoS_kSum, z_letGoS_kRows, z_letGoS_fails, z_letGoS_taken, z_letGoS_acks]; exact w.q), (by simp only [z_letGoS_N, z_letGoS_C, z_letGoS_fr, z_letGoS_to, z_letGoS_tol, z_letGoS_sum, z_letGoS_rows, z_letGoS_ended, z_letGoS_latest, z_letGoS_q, z_letGoS_log, z_letGoS_fin, z_letGoS_stand, z_letGoS_over, z_letGoS_held, z_letGoS_M, z_letGoS_cond, z_letGoS_pos, z_letGoS_came, z_letGoS_kept, z_letGoS_kEnd, z_letGoS_kSum, z_letGoS_kRows, z_letGoS_fails, z_letGoS_taken, z_letGoS_acks]; exact w.log), (by simp only [z_letGoS_N, z_letGoS_C, z_letGoS_fr, z_letGoS_to, z_letGoS_tol, z_letGoS_sum, z_letGoS_rows, z_letGoS_ended, z_letGoS_latest, z_letGoS_q, z_letGoS_log, z_letGoS_fin, z_letGoS_stand, z_letGoS_over, z_letGoS_held, z_letGoS_M, z_letGoS_cond, z_letGoS_pos, z_letGoS_came, z_letGoS_kept, z_letGoS_kEnd, z_letGoS_kSum, z_letGoS_kRows, z_letGoS_fails, z_letGoS_taken, z_letGoS_acks]; exact w.stand), ?_, (by simp only [z_letGoS_N, z_letGoS_C, z_letGoS_fr, z_letGoS_to, z_letGoS_tol, z_letGoS_sum, z_letGoS_rows, z_letGoS_ended, z_letGoS_latest, z_letGoS_q, z_letGoS_log, z_letGoS_fin, z_letGoS_stand, z_letGoS_over, z_letGoS_held, z_letGoS_M, z_letGoS_cond, z_letGoS_pos, z_letGoS_came, z_letGoS_kept, z_letGoS_kEnd, z_letGoS_kSum, z_letGoS_kRows, z_letGoS_fails, z_letGoS_taken, z_letGoS_acks]; exact fun x k => w.latest), (by simp only [z_letGoS_N, z_letGoS_C, z_letGoS_fr, z_letGoS_to, z_letGoS_tol, z_letGoS_sum, z_letGoS_rows, z_letGoS_ended, z_letGoS_latest, z_letGoS_q, z_letGoS_log, z_letGoS_fin, z_letGoS_stand, z_letGoS_over, z_letGoS_held, z_letGoS_M, z_letGoS_cond, z_letGoS_pos, z_letGoS_came, z_letGoS_kept, z_letGoS_kEnd, z_letGoS_kSum, z_letGoS_kRows, z_letGoS_fails, z_letGoS_taken, z_letGoS_acks]; exact fun z => w.acks), (by simp only [z_letGoS_N, z_letGoS_C, z_letGoS_fr, z_letGoS_to, z_letGoS_tol, z_letGoS_sum, z_letGoS_rows, z_letGoS_ended, z_letGoS_latest, z_letGoS_q, z_letGoS_log, z_letGoS_fin, z_letGoS_stand, z_letGoS_over, z_letGoS_held, z_letGoS_M, z_letGoS_cond, z_letGoS_pos, z_letGoS_came, z_letGoS_kept, z_letGoS_kEnd, z_letGoS_kSum, z_letGoS_kRows, z_letGoS_fails, z_letGoS_taken, z_letGoS_acks]; exact w.ackn), (by simp only [z_letGoS_N, z_letGoS_C, z_letGoS_fr, z_letGoS_to, z_letGoS_tol, z_letGoS_sum, z_letGoS_rows, z_letGoS_ended, z_letGoS_latest, z_letGoS_q, z_letGoS_log, z_letGoS_fin, z_letGoS_stand, z_letGoS_over, z_letGoS_held, z_letGoS_M, z_letGoS_cond, z_letGoS_pos, z_letGoS_came, z_letGoS_kept, z_letGoS_kEnd, z_letGoS_kSum, z_letGoS_kRows, z_letGoS_fails, z_letGoS_taken, z_letGoS_acks]; exact w.cond), (by simp only [z_letGoS_N, z_letGoS_C, z_letGoS_fr, z_letGoS_to, z_letGoS_tol, z_letGoS_sum, z_letGoS_rows, z_letGoS_ended, z_letGoS_latest, z_letGoS_q, z_letGoS_log, z_letGoS_fin, z_letGoS_stand, z_letGoS_over, z_letGoS_held, z_letGoS_M, z_letGoS_cond, z_letGoS_pos, z_letGoS_came, z_letGoS_kept, z_letGoS_kEnd, z_letGoS_kSum, z_letGoS_kRows, z_letGoS_fails, z_letGoS_taken, z_letGoS_acks]; exact w.pos), (by simp only [z_letGoS_N, z_letGoS_C, z_letGoS_fr, z_letGoS_to, z_letGoS_tol, z_letGoS_sum, z_letGoS_rows, z_letGoS_ended, z_letGoS_latest, z_letGoS_q, z_letGoS_log, z_letGoS_fin, z_letGoS_stand, z_letGoS_over, z_letGoS_held, z_letGoS_M, z_letGoS_cond, z_letGoS_pos, z_letGoS_came, z_letGoS_kept, z_letGoS_kEnd, z_letGoS_kSum, z_letGoS_kRows, z_letGoS_fails, z_letGoS_taken, z_letGoS_acks]; exact fun c z => w.kin), (by simp only [z_letGoS_N, z_letGoS_C, z_letGoS_fr, z_letGoS_to, z_letGoS_tol, z_letGoS_sum, z_letGoS_rows, z_letGoS_ended, z_letGoS_latest, z_letGoS_q, z_letGoS_log, z_letGoS_fin, z_letGoS_stand, z_letGoS_over, z_letGoS_held, z_letGoS_M, z_letGoS_cond, z_letGoS_pos, z_letGoS_came, z_letGoS_kept, z_letGoS_kEnd, z_letGoS_kSum, z_letGoS_kRows, z_letGoS_fails, z_letGoS_taken, z_letGoS_acks]; exact fun c z => w.bar), (by simp only [z_letGoS_N, z_letGoS_C, z_letGoS_fr, z_letGoS_to, z_letGoS_tol, z_letGoS_sum, z_letGoS_rows, z_letGoS_ended, z_letGoS_latest, z_letGoS_q, z_letGoS_log, z_letGoS_fin, z_letGoS_stand, z_letGoS_over, z_letGoS_held, z_letGoS_M, z_letGoS_cond, z_letGoS_pos, z_letGoS_came, z_letGoS_kept, z_letGoS_kEnd, z_letGoS_kSum, z_letGoS_kRows, z_letGoS_fails, z_letGoS_taken, z_letGoS_acks]; exact fun c => w.src)⟩
  intro j k hk
  rw [z_letGoS_held] at hk
  rw [z_letGoS_M]
  have hk : (if j < c ∧ s_to s j = x then none else s_held s j) = some k := hk
  split at hk
  · cases hk
  · exact w.held hk
theorem give_ended (s : zSt) (E : Nat → Bool) (x k : Nat) (v : Int64) : giveS (u_ended s E) x k v = u_ended (giveS s x k v) E := rfl
set_option maxHeartbeats 2000000 in
theorem fB_endTask_eq (g : Cls e t s) (w : Wf s) {x : Nat} (hx : x < s_N s) (hq : ∀ c, c ∈ outs s x → (s_q s c).length ≤ 8) (hA9 : (s_acks s).length + (NKs s x).length ≤ 520) : ∃ t', fB_endTask (pv e t) n (pL e 0 0 0) (some (pL e 2 x 0)) = some (.inl (some (.int 6)), pv e t', n) ∧ Cls e t' (keepAll x (s_M s) (u_ended (giveS s x 2 0) (fu (s_ended (giveS s x 2 0)) x true))) ∧ Fr PC t t' := by
  have hM := w.M
  have o2 := ClsG.o2 g hx
  have g1 : Cls e (wI t 2 x 8 1) (u_ended s (fu (s_ended s) x true)) := ClsG.uended g hx true
  obtain ⟨t2, h2, g2, F2⟩ := fT_putOut_eq (n := n) (k := 2) g1 w.uended (x := x) hx 0 (fun c hc => by have := hq c hc; show (s_q s c).length < 9; omega)
  have h2' : fT_putOut (pv e (wI t 2 x 8 1)) n (pL e 2 x 0) 2 0 = some (.inl none, pv e t2, n) := h2
  rw [give_ended] at g2
  rw [z_giveS_ended]
  have w2 : Wf (u_ended (giveS s x 2 0) (fu (s_ended s) x true)) := (w.give (by omega) (fun c hc hf => by have := hq c (mem_outs.mpr ⟨hc, hf⟩); omega) (fun q => by omega)).uended
  have hMM : s_M (u_ended (giveS s x 2 0) (fu (s_ended s) x true)) = s_M s := by rw [y_M_ended, z_giveS_M]
  obtain ⟨t3, h3, g3, F3⟩ := fB_endTask_13_eq (n := n) w2 (x := x) hx hA9 (s_M s) 0 t2 zF (by rw [hMM, Nat.zero_add]) (zF_big (by omega)) g2
  rw [hMM] at g3
  refine ⟨t3, ?_, g3, ((fr_p3 (k := 2) (i := x)).c (by decide)).trans (F2.trans F3)⟩
  rw [← h3]
  unfold fB_endTask
  generalize fB_endTask_13 zF = R
  simp (disch := first | assumption | omega | exact b2i_01 _ | exact Or.inl rfl | exact Or.inr rfl) only [b2 o2, f2_0 o2, p2_0 o2, f2_1 o2, f2_2 o2, f2_3 o2, p2_3 o2, f2_4 o2, p2_4 o2, f2_5 o2, p2_5 o2, f2_6 o2, p2_6 o2, f2_7 o2, p2_7 o2, f2_8 o2, p2_8 o2, g2_1 o2, a2_1 o2, g2_2 o2, a2_2 o2, rI_uI, rI_uJ, rI_uR, rI_wI, rI_wJ, rJ_uJ, rJ_uI, rJ_uR, rJ_wI, rJ_wJ, rR_uR, rR_uI, rR_uJ, rR_wI, rR_wJ, qI_wI, qI_wJ, qI_uI, qI_uJ, qI_uR, qJ_wJ, qJ_wI, qJ_uI, qJ_uJ, qJ_uR, Option.bind_some, zcV_s, zcI_s, zcL_s, zrI, zrV, zrL, nI_mul8, nI_mul16, nI_mul200, nI_1, eq_self, Nat.reduceEqDiff, and_true, true_and, and_false, false_and, and_self, ite_true, ite_false, ↓reduceIte, Nat.add_zero, if_true, if_false, b2i_t, b2i_f, o2i_s, o2i_n, zdI_s, zdV_s, zdL_s, zcR_s, zcV_x, zcI_x, zcL_x, zcR_x, zrR_s, zth_s, nI_leI, nI_ltI, nI_eq, nI_eq0, nI_eqm1, b2i_eq0, h2']
  rfl
theorem kgl (s : zSt) (m x : Nat) (v : Int64) : keepS (letGoS (giveS s x 1 v) x (s_C s)) m x = letGoS (giveS (keepS s m x) x 1 v) x (s_C s) := zSt_ext (by simp only [z_keepS_N, z_keepS_C, z_keepS_fr, z_keepS_to, z_keepS_tol, z_keepS_sum, z_keepS_rows, z_keepS_ended, z_keepS_latest, z_keepS_q, z_keepS_log, z_keepS_fin, z_keepS_stand, z_keepS_over, z_keepS_held, z_keepS_M, z_keepS_cond, z_keepS_pos, z_keepS_came, z_keepS_kept, z_keepS_kEnd, z_keepS_kSum, z_keepS_kRows, z_keepS_fails, z_keepS_taken, z_keepS_acks, z_letGoS_N, z_letGoS_C, z_letGoS_fr, z_letGoS_to, z_letGoS_tol, z_letGoS_sum, z_letGoS_rows, z_letGoS_ended, z_letGoS_latest, z_letGoS_q, z_letGoS_log, z_letGoS_fin, z_letGoS_stand, z_letGoS_over, z_letGoS_held, z_letGoS_M, z_letGoS_cond, z_letGoS_pos, z_letGoS_came, z_letGoS_kept, z_letGoS_kEnd, z_letGoS_kSum, z_letGoS_kRows, z_letGoS_fails, z_letGoS_taken, z_letGoS_acks, z_giveS_N, z_giveS_C, z_giveS_fr, z_giveS_to, z_giveS_tol, z_giveS_sum, z_giveS_rows, z_giveS_ended, z_giveS_latest, z_giveS_q, z_giveS_log, z_giveS_fin, z_giveS_stand, z_giveS_over, z_giveS_held, z_giveS_M, z_giveS_cond, z_giveS_pos, z_giveS_came, z_giveS_kept, z_giveS_kEnd, z_giveS_kSum, z_giveS_kRows, z_giveS_fails, z_giveS_taken, z_giveS_acks]) (by simp only [z_keepS_N, z_keepS_C, z_keepS_fr, z_keepS_to, z_keepS_tol, z_keepS_sum, z_keepS_rows, z_keepS_ended, z_keepS_latest, z_keepS_q, z_keepS_log, z_keepS_fin, z_keepS_stand, z_keepS_over, z_keepS_held, z_keepS_M, z_keepS_cond, z_keepS_pos, z_keepS_came, z_keepS_kept, z_keepS_kEnd, z_keepS_kSum, z_keepS_kRows, z_keepS_fails, z_keepS_taken, z_keepS_acks, z_letGoS_N, z_letGoS_C, z_letGoS_fr, z_letGoS_to, z_letGoS_tol, z_letGoS_sum, z_letGoS_rows, z_letGoS_ended, z_letGoS_latest, z_letGoS_q, z_letGoS_log, z_letGoS_fin, z_letGoS_stand, z_letGoS_over, z_letGoS_held, z_letGoS_M, z_letGoS_cond, z_letGoS_pos, z_letGoS_came, z_letGoS_kept, z_letGoS_kEnd, z_letGoS_kSum, z_letGoS_kRows, z_letGoS_fails, z_letGoS_taken, z_letGoS_acks, z_giveS_N, z_giveS_C, z_giveS_fr, z_giveS_to, z_giveS_tol, z_giveS_sum, z_giveS_rows, z_giveS_ended, z_giveS_latest, z_giveS_q, z_giveS_log, z_giveS_fin, z_giveS_stand, z_giveS_over, z_giveS_held, z_giveS_M, z_giveS_cond, z_giveS_pos, z_giveS_came, z_giveS_kept, z_giveS_kEnd, z_giveS_kSum, z_giveS_kRows, z_giveS_fails, z_giveS_taken, z_giveS_acks]) (by simp only [z_keepS_N, z_keepS_C, z_keepS_fr, z_keepS_to, z_keepS_tol, z_keepS_sum, z_keepS_rows, z_keepS_ended, z_keepS_latest, z_keepS_q, z_keepS_log, z_keepS_fin, z_keepS_stand, z_keepS_over, z_keepS_held, z_keepS_M, z_keepS_cond, z_keepS_pos, z_keepS_came, z_keepS_kept, z_keepS_kEnd, z_keepS_kSum, z_keepS_kRows, z_keepS_fails, z_keepS_taken, z_keepS_acks, z_letGoS_N, z_letGoS_C, z_letGoS_fr, z_letGoS_to, z_letGoS_tol, z_letGoS_sum, z_letGoS_rows, z_letGoS_ended, z_letGoS_latest, z_letGoS_q, z_letGoS_log, z_letGoS_fin, z_letGoS_stand, z_letGoS_over, z_letGoS_held, z_letGoS_M, z_letGoS_cond, z_letGoS_pos, z_letGoS_came, z_letGoS_kept, z_letGoS_kEnd, z_letGoS_kSum, z_letGoS_kRows, z_letGoS_fails, z_letGoS_taken, z_letGoS_acks, z_giveS_N, z_giveS_C, z_giveS_fr, z_giveS_to, z_giveS_tol, z_giveS_sum, z_giveS_rows, z_giveS_ended, z_giveS_latest, z_giveS_q, z_giveS_log, z_giveS_fin, z_giveS_stand, z_giveS_over, z_giveS_held, z_giveS_M, z_giveS_cond, z_giveS_pos, z_giveS_came, z_giveS_kept, z_giveS_kEnd, z_giveS_kSum, z_giveS_kRows, z_giveS_fails, z_giveS_taken, z_giveS_acks]) (by simp only [z_keepS_N, z_keepS_C, z_keepS_fr, z_keepS_to, z_keepS_tol, z_keepS_sum, z_keepS_rows, z_keepS_ended, z_keepS_latest, z_keepS_q, z_keepS_log, z_keepS_fin, z_keepS_stand, z_keepS_over, z_keepS_held, z_keepS_M, z_keepS_cond, z_keepS_pos, z_keepS_came, z_keepS_kept, z_keepS_kEnd, z_keepS_kSum, z_keepS_kRows, z_keepS_fails, z_keepS_taken, z_keepS_acks, z_letGoS_N, z_letGoS_C, z_letGoS_fr, z_letGoS_to, z_letGoS_tol, z_letGoS_sum, z_letGoS_rows, z_letGoS_ended, z_letGoS_latest, z_letGoS_q, z_letGoS_log, z_letGoS_fin, z_letGoS_stand, z_letGoS_over, z_letGoS_held, z_letGoS_M, z_letGoS_cond, z_letGoS_pos, z_letGoS_came, z_letGoS_kept, z_letGoS_kEnd, z_letGoS_kSum, z_letGoS_kRows, z_letGoS_fails, z_letGoS_taken, z_letGoS_acks, z_giveS_N, z_giveS_C, z_giveS_fr, z_giveS_to, z_giveS_tol, z_giveS_sum, z_giveS_rows, z_giveS_ended, z_giveS_latest, z_giveS_q, z_giveS_log, z_giveS_fin, z_giveS_stand, z_giveS_over, z_giveS_held, z_giveS_M, z_giveS_cond, z_giveS_pos, z_giveS_came, z_giveS_kept, z_giveS_kEnd, z_giveS_kSum, z_giveS_kRows, z_giveS_fails, z_giveS_taken, z_giveS_acks]) (by simp only [z_keepS_N, z_keepS_C, z_keepS_fr, z_keepS_to, z_keepS_tol, z_keepS_sum, z_keepS_rows, z_keepS_ended, z_keepS_latest, z_keepS_q, z_keepS_log, z_keepS_fin, z_keepS_stand, z_keepS_over, z_keepS_held, z_keepS_M, z_keepS_cond, z_keepS_pos, z_keepS_came, z_keepS_kept, z_keepS_kEnd, z_keepS_kSum, z_keepS_kRows, z_keepS_fails, z_keepS_taken, z_keepS_acks, z_letGoS_N, z_letGoS_C, z_letGoS_fr, z_letGoS_to, z_letGoS_tol, z_letGoS_sum, z_letGoS_rows, z_letGoS_ended, z_letGoS_latest, z_letGoS_q, z_letGoS_log, z_letGoS_fin, z_letGoS_stand, z_letGoS_over, z_letGoS_held, z_letGoS_M, z_letGoS_cond, z_letGoS_pos, z_letGoS_came, z_letGoS_kept, z_letGoS_kEnd, z_letGoS_kSum, z_letGoS_kRows, z_letGoS_fails, z_letGoS_taken, z_letGoS_acks, z_giveS_N, z_giveS_C, z_giveS_fr, z_giveS_to, z_giveS_tol, z_giveS_sum, z_giveS_rows, z_giveS_ended, z_giveS_latest, z_giveS_q, z_giveS_log, z_giveS_fin, z_giveS_stand, z_giveS_over, z_giveS_held, z_giveS_M, z_giveS_cond, z_giveS_pos, z_giveS_came, z_giveS_kept, z_giveS_kEnd, z_giveS_kSum, z_giveS_kRows, z_giveS_fails, z_giveS_taken, z_giveS_acks]) (by simp only [z_keepS_N, z_keepS_C, z_keepS_fr, z_keepS_to, z_keepS_tol, z_keepS_sum, z_keepS_rows, z_keepS_ended, z_keepS_latest, z_keepS_q, z_keepS_log, z_keepS_fin, z_keepS_stand, z_keepS_over, z_keepS_held, z_keepS_M, z_keepS_cond, z_keepS_pos, z_keepS_came, z_keepS_kept, z_keepS_kEnd, z_keepS_kSum, z_keepS_kRows, z_keepS_fails, z_keepS_taken, z_keepS_acks, z_letGoS_N, z_letGoS_C, z_letGoS_fr, z_letGoS_to, z_letGoS_tol, z_letGoS_sum, z_letGoS_rows, z_letGoS_ended, z_letGoS_latest, z_letGoS_q, z_letGoS_log, z_letGoS_fin, z_letGoS_stand, z_letGoS_over, z_letGoS_held, z_letGoS_M, z_letGoS_cond, z_letGoS_pos, z_letGoS_came, z_letGoS_kept, z_letGoS_kEnd, z_letGoS_kSum, z_letGoS_kRows, z_letGoS_fails, z_letGoS_taken, z_letGoS_acks, z_giveS_N, z_giveS_C, z_giveS_fr, z_giveS_to, z_giveS_tol, z_giveS_sum, z_giveS_rows, z_giveS_ended, z_giveS_latest, z_giveS_q, z_giveS_log, z_giveS_fin, z_giveS_stand, z_giveS_over, z_giveS_held, z_giveS_M, z_giveS_cond, z_giveS_pos, z_giveS_came, z_giveS_kept, z_giveS_kEnd, z_giveS_kSum, z_giveS_kRows, z_giveS_fails, z_giveS_taken, z_giveS_acks]) (by simp only [z_keepS_N, z_keepS_C, z_keepS_fr, z_keepS_to, z_keepS_tol, z_keepS_sum, z_keepS_rows, z_keepS_ended, z_keepS_latest, z_keepS_q, z_keepS_log, z_keepS_fin, z_keepS_stand, z_keepS_over, z_keepS_held, z_keepS_M, z_keepS_cond, z_keepS_pos, z_keepS_came, z_keepS_kept, z_keepS_kEnd, z_keepS_kSum, z_keepS_kRows, z_keepS_fails, z_keepS_taken, z_keepS_acks, z_letGoS_N, z_letGoS_C, z_letGoS_fr, z_letGoS_to, z_letGoS_tol, z_letGoS_sum, z_letGoS_rows, z_letGoS_ended, z_letGoS_latest, z_letGoS_q, z_letGoS_log, z_letGoS_fin, z_letGoS_stand, z_letGoS_over, z_letGoS_held, z_letGoS_M, z_letGoS_cond, z_letGoS_pos, z_letGoS_came, z_letGoS_kept, z_letGoS_kEnd, z_letGoS_kSum, z_letGoS_kRows, z_letGoS_fails, z_letGoS_taken, z_letGoS_acks, z_giveS_N, z_giveS_C, z_giveS_fr, z_giveS_to, z_giveS_tol, z_giveS_sum, z_giveS_rows, z_giveS_ended, z_giveS_latest, z_giveS_q, z_giveS_log, z_giveS_fin, z_giveS_stand, z_giveS_over, z_giveS_held, z_giveS_M, z_giveS_cond, z_giveS_pos, z_giveS_came, z_giveS_kept, z_giveS_kEnd, z_giveS_kSum, z_giveS_kRows, z_giveS_fails, z_giveS_taken, z_giveS_acks]) (by simp only [z_keepS_N, z_keepS_C, z_keepS_fr, z_keepS_to, z_keepS_tol, z_keepS_sum, z_keepS_rows, z_keepS_ended, z_keepS_latest, z_keepS_q, z_keepS_log, z_keepS_fin, z_keepS_stand, z_keepS_over, z_keepS_held, z_keepS_M, z_keepS_cond, z_keepS_pos, z_keepS_came, z_keepS_kept, z_keepS_kEnd, z_keepS_kSum, z_keepS_kRows, z_keepS_fails, z_keepS_taken, z_keepS_acks, z_letGoS_N, z_letGoS_C, z_letGoS_fr, z_letGoS_to, z_letGoS_tol, z_letGoS_sum, z_letGoS_rows, z_letGoS_ended, z_letGoS_latest, z_letGoS_q, z_letGoS_log, z_letGoS_fin, z_letGoS_stand, z_letGoS_over, z_letGoS_held, z_letGoS_M, z_letGoS_cond, z_letGoS_pos, z_letGoS_came, z_letGoS_kept, z_letGoS_kEnd, z_letGoS_kSum, z_letGoS_kRows, z_letGoS_fails, z_letGoS_taken, z_letGoS_acks, z_giveS_N, z_giveS_C, z_giveS_fr, z_giveS_to, z_giveS_tol, z_giveS_sum, z_giveS_rows, z_giveS_ended, z_giveS_latest, z_giveS_q, z_giveS_log, z_giveS_fin, z_giveS_stand, z_giveS_over, z_giveS_held, z_giveS_M, z_giveS_cond, z_giveS_pos, z_giveS_came, z_giveS_kept, z_giveS_kEnd, z_giveS_kSum, z_giveS_kRows, z_giveS_fails, z_giveS_taken, z_giveS_acks]) (by simp only [z_keepS_N, z_keepS_C, z_keepS_fr, z_keepS_to, z_keepS_tol, z_keepS_sum, z_keepS_rows, z_keepS_ended, z_keepS_latest, z_keepS_q, z_keepS_log, z_keepS_fin, z_keepS_stand, z_keepS_over, z_keepS_held, z_keepS_M, z_keepS_cond, z_keepS_pos, z_keepS_came, z_keepS_kept, z_keepS_kEnd, z_keepS_kSum, z_keepS_kRows, z_keepS_fails, z_keepS_taken, z_keepS_acks, z_letGoS_N, z_letGoS_C, z_letGoS_fr, z_letGoS_to, z_letGoS_tol, z_letGoS_sum, z_letGoS_rows, z_letGoS_ended, z_letGoS_latest, z_letGoS_q, z_letGoS_log, z_letGoS_fin, z_letGoS_stand, z_letGoS_over, z_letGoS_held, z_letGoS_M, z_letGoS_cond, z_letGoS_pos, z_letGoS_came, z_letGoS_kept, z_letGoS_kEnd, z_letGoS_kSum, z_letGoS_kRows, z_letGoS_fails, z_letGoS_taken, z_letGoS_acks, z_giveS_N, z_giveS_C, z_giveS_fr, z_giveS_to, z_giveS_tol, z_giveS_sum, z_giveS_rows, z_giveS_ended, z_giveS_latest, z_giveS_q, z_giveS_log, z_giveS_fin, z_giveS_stand, z_giveS_over, z_giveS_held, z_giveS_M, z_giveS_cond, z_giveS_pos, z_giveS_came, z_giveS_kept, z_giveS_kEnd, z_giveS_kSum, z_giveS_kRows, z_giveS_fails, z_giveS_taken, z_giveS_acks]) (by simp only [z_keepS_N, z_keepS_C, z_keepS_fr, z_keepS_to, z_keepS_tol, z_keepS_sum, z_keepS_rows, z_keepS_ended, z_keepS_latest, z_keepS_q, z_keepS_log, z_keepS_fin, z_keepS_stand, z_keepS_over, z_keepS_held, z_keepS_M, z_keepS_cond, z_keepS_pos, z_keepS_came, z_keepS_kept, z_keepS_kEnd, z_keepS_kSum, z_keepS_kRows, z_keepS_fails, z_keepS_taken, z_keepS_acks, z_letGoS_N, z_letGoS_C, z_letGoS_fr, z_letGoS_to, z_letGoS_tol, z_letGoS_sum, z_letGoS_rows, z_letGoS_ended, z_letGoS_latest, z_letGoS_q, z_letGoS_log, z_letGoS_fin, z_letGoS_stand, z_letGoS_over, z_letGoS_held, z_letGoS_M, z_letGoS_cond, z_letGoS_pos, z_letGoS_came, z_letGoS_kept, z_letGoS_kEnd, z_letGoS_kSum, z_letGoS_kRows, z_letGoS_fails, z_letGoS_taken, z_letGoS_acks, z_giveS_N, z_giveS_C, z_giveS_fr, z_giveS_to, z_giveS_tol, z_giveS_sum, z_giveS_rows, z_giveS_ended, z_giveS_latest, z_giveS_q, z_giveS_log, z_giveS_fin, z_giveS_stand, z_giveS_over, z_giveS_held, z_giveS_M, z_giveS_cond, z_giveS_pos, z_giveS_came, z_giveS_kept, z_giveS_kEnd, z_giveS_kSum, z_giveS_kRows, z_giveS_fails, z_giveS_taken, z_giveS_acks]) (by simp only [z_keepS_N, z_keepS_C, z_keepS_fr, z_keepS_to, z_keepS_tol, z_keepS_sum, z_keepS_rows, z_keepS_ended, z_keepS_latest, z_keepS_q, z_keepS_log, z_keepS_fin, z_keepS_stand, z_keepS_over, z_keepS_held, z_keepS_M, z_keepS_cond, z_keepS_pos, z_keepS_came, z_keepS_kept, z_keepS_kEnd, z_keepS_kSum, z_keepS_kRows, z_keepS_fails, z_keepS_taken, z_keepS_acks, z_letGoS_N, z_letGoS_C, z_letGoS_fr, z_letGoS_to, z_letGoS_tol, z_letGoS_sum, z_letGoS_rows, z_letGoS_ended, z_letGoS_latest, z_letGoS_q, z_letGoS_log, z_letGoS_fin, z_letGoS_stand, z_letGoS_over, z_letGoS_held, z_letGoS_M, z_letGoS_cond, z_letGoS_pos, z_letGoS_came, z_letGoS_kept, z_letGoS_kEnd, z_letGoS_kSum, z_letGoS_kRows, z_letGoS_fails, z_letGoS_taken, z_letGoS_acks, z_giveS_N, z_giveS_C, z_giveS_fr, z_giveS_to, z_giveS_tol, z_giveS_sum, z_giveS_rows, z_giveS_ended, z_giveS_latest, z_giveS_q, z_giveS_log, z_giveS_fin, z_giveS_stand, z_giveS_over, z_giveS_held, z_giveS_M, z_giveS_cond, z_giveS_pos, z_giveS_came, z_giveS_kept, z_giveS_kEnd, z_giveS_kSum, z_giveS_kRows, z_giveS_fails, z_giveS_taken, z_giveS_acks]) (by simp only [z_keepS_N, z_keepS_C, z_keepS_fr, z_keepS_to, z_keepS_tol, z_keepS_sum, z_keepS_rows, z_keepS_ended, z_keepS_latest, z_keepS_q, z_keepS_log, z_keepS_fin, z_keepS_stand, z_keepS_over, z_keepS_held, z_keepS_M, z_keepS_cond, z_keepS_pos, z_keepS_came, z_keepS_kept, z_keepS_kEnd, z_keepS_kSum, z_keepS_kRows, z_keepS_fails, z_keepS_taken, z_keepS_acks, z_letGoS_N, z_letGoS_C, z_letGoS_fr, z_letGoS_to, z_letGoS_tol, z_letGoS_sum, z_letGoS_rows, z_letGoS_ended, z_letGoS_latest, z_letGoS_q, z_letGoS_log, z_letGoS_fin, z_letGoS_stand, z_letGoS_over, z_letGoS_held, z_letGoS_M, z_letGoS_cond, z_letGoS_pos, z_letGoS_came, z_letGoS_kept, z_letGoS_kEnd, z_letGoS_kSum, z_letGoS_kRows, z_letGoS_fails, z_letGoS_taken, z_letGoS_acks, z_giveS_N, z_giveS_C, z_giveS_fr, z_giveS_to, z_giveS_tol, z_giveS_sum, z_giveS_rows, z_giveS_ended, z_giveS_latest, z_giveS_q, z_giveS_log, z_giveS_fin, z_giveS_stand, z_giveS_over, z_giveS_held, z_giveS_M, z_giveS_cond, z_giveS_pos, z_giveS_came, z_giveS_kept, z_giveS_kEnd, z_giveS_kSum, z_giveS_kRows, z_giveS_fails, z_giveS_taken, z_giveS_acks]) (by simp only [z_keepS_N, z_keepS_C, z_keepS_fr, z_keepS_to, z_keepS_tol, z_keepS_sum, z_keepS_rows, z_keepS_ended, z_keepS_latest, z_keepS_q, z_keepS_log, z_keepS_fin, z_keepS_stand, z_keepS_over, z_keepS_held, z_keepS_M, z_keepS_cond, z_keepS_pos, z_keepS_came, z_keepS_kept, z_keepS_kEnd, z_keepS_kSum, z_keepS_kRows, z_keepS_fails, z_keepS_taken, z_keepS_acks, z_letGoS_N, z_letGoS_C, z_letGoS_fr, z_letGoS_to, z_letGoS_tol, z_letGoS_sum, z_letGoS_rows, z_letGoS_ended, z_letGoS_latest, z_letGoS_q, z_letGoS_log, z_letGoS_fin, z_letGoS_stand, z_letGoS_over, z_letGoS_held, z_letGoS_M, z_letGoS_cond, z_letGoS_pos, z_letGoS_came, z_letGoS_kept, z_letGoS_kEnd, z_letGoS_kSum, z_letGoS_kRows, z_letGoS_fails, z_letGoS_taken, z_letGoS_acks, z_giveS_N, z_giveS_C, z_giveS_fr, z_giveS_to, z_giveS_tol, z_giveS_sum, z_giveS_rows, z_giveS_ended, z_giveS_latest, z_giveS_q, z_giveS_log, z_giveS_fin, z_giveS_stand, z_giveS_over, z_giveS_held, z_giveS_M, z_giveS_cond, z_giveS_pos, z_giveS_came, z_giveS_kept, z_giveS_kEnd, z_giveS_kSum, z_giveS_kRows, z_giveS_fails, z_giveS_taken, z_giveS_acks]) (by simp only [z_keepS_N, z_keepS_C, z_keepS_fr, z_keepS_to, z_keepS_tol, z_keepS_sum, z_keepS_rows, z_keepS_ended, z_keepS_latest, z_keepS_q, z_keepS_log, z_keepS_fin, z_keepS_stand, z_keepS_over, z_keepS_held, z_keepS_M, z_keepS_cond, z_keepS_pos, z_keepS_came, z_keepS_kept, z_keepS_kEnd, z_keepS_kSum, z_keepS_kRows, z_keepS_fails, z_keepS_taken, z_keepS_acks, z_letGoS_N, z_letGoS_C, z_letGoS_fr, z_letGoS_to, z_letGoS_tol, z_letGoS_sum, z_letGoS_rows, z_letGoS_ended, z_letGoS_latest, z_letGoS_q, z_letGoS_log, z_letGoS_fin, z_letGoS_stand, z_letGoS_over, z_letGoS_held, z_letGoS_M, z_letGoS_cond, z_letGoS_pos, z_letGoS_came, z_letGoS_kept, z_letGoS_kEnd, z_letGoS_kSum, z_letGoS_kRows, z_letGoS_fails, z_letGoS_taken, z_letGoS_acks, z_giveS_N, z_giveS_C, z_giveS_fr, z_giveS_to, z_giveS_tol, z_giveS_sum, z_giveS_rows, z_giveS_ended, z_giveS_latest, z_giveS_q, z_giveS_log, z_giveS_fin, z_giveS_stand, z_giveS_over, z_giveS_held, z_giveS_M, z_giveS_cond, z_giveS_pos, z_giveS_came, z_giveS_kept, z_giveS_kEnd, z_giveS_kSum, z_giveS_kRows, z_giveS_fails, z_giveS_taken, z_giveS_acks]) (by simp only [z_keepS_N, z_keepS_C, z_keepS_fr, z_keepS_to, z_keepS_tol, z_keepS_sum, z_keepS_rows, z_keepS_ended, z_keepS_latest, z_keepS_q, z_keepS_log, z_keepS_fin, z_keepS_stand, z_keepS_over, z_keepS_held, z_keepS_M, z_keepS_cond, z_keepS_pos, z_keepS_came, z_keepS_kept, z_keepS_kEnd, z_keepS_kSum, z_keepS_kRows, z_keepS_fails, z_keepS_taken, z_keepS_acks, z_letGoS_N, z_letGoS_C, z_letGoS_fr, z_letGoS_to, z_letGoS_tol, z_letGoS_sum, z_letGoS_rows, z_letGoS_ended, z_letGoS_latest, z_letGoS_q, z_letGoS_log, z_letGoS_fin, z_letGoS_stand, z_letGoS_over, z_letGoS_held, z_letGoS_M, z_letGoS_cond, z_letGoS_pos, z_letGoS_came, z_letGoS_kept, z_letGoS_kEnd, z_letGoS_kSum, z_letGoS_kRows, z_letGoS_fails, z_letGoS_taken, z_letGoS_acks, z_giveS_N, z_giveS_C, z_giveS_fr, z_giveS_to, z_giveS_tol, z_giveS_sum, z_giveS_rows, z_giveS_ended, z_giveS_latest, z_giveS_q, z_giveS_log, z_giveS_fin, z_giveS_stand, z_giveS_over, z_giveS_held, z_giveS_M, z_giveS_cond, z_giveS_pos, z_giveS_came, z_giveS_kept, z_giveS_kEnd, z_giveS_kSum, z_giveS_kRows, z_giveS_fails, z_giveS_taken, z_giveS_acks]) (by simp only [z_keepS_N, z_keepS_C, z_keepS_fr, z_keepS_to, z_keepS_tol, z_keepS_sum, z_keepS_rows, z_keepS_ended, z_keepS_latest, z_keepS_q, z_keepS_log, z_keepS_fin, z_keepS_stand, z_keepS_over, z_keepS_held, z_keepS_M, z_keepS_cond, z_keepS_pos, z_keepS_came, z_keepS_kept, z_keepS_kEnd, z_keepS_kSum, z_keepS_kRows, z_keepS_fails, z_keepS_taken, z_keepS_acks, z_letGoS_N, z_letGoS_C, z_letGoS_fr, z_letGoS_to, z_letGoS_tol, z_letGoS_sum, z_letGoS_rows, z_letGoS_ended, z_letGoS_latest, z_letGoS_q, z_letGoS_log, z_letGoS_fin, z_letGoS_stand, z_letGoS_over, z_letGoS_held, z_letGoS_M, z_letGoS_cond, z_letGoS_pos, z_letGoS_came, z_letGoS_kept, z_letGoS_kEnd, z_letGoS_kSum, z_letGoS_kRows, z_letGoS_fails, z_letGoS_taken, z_letGoS_acks, z_giveS_N, z_giveS_C, z_giveS_fr, z_giveS_to, z_giveS_tol, z_giveS_sum, z_giveS_rows, z_giveS_ended, z_giveS_latest, z_giveS_q, z_giveS_log, z_giveS_fin, z_giveS_stand, z_giveS_over, z_giveS_held, z_giveS_M, z_giveS_cond, z_giveS_pos, z_giveS_came, z_giveS_kept, z_giveS_kEnd, z_giveS_kSum, z_giveS_kRows, z_giveS_fails, z_giveS_taken, z_giveS_acks]) (by simp only [z_keepS_N, z_keepS_C, z_keepS_fr, z_keepS_to, z_keepS_tol, z_keepS_sum, z_keepS_rows, z_keepS_ended, z_keepS_latest, z_keepS_q, z_keepS_log, z_keepS_fin, z_keepS_stand, z_keepS_over, z_keepS_held, z_keepS_M, z_keepS_cond, z_keepS_pos, z_keepS_came, z_keepS_kept, z_keepS_kEnd, z_keepS_kSum, z_keepS_kRows, z_keepS_fails, z_keepS_taken, z_keepS_acks, z_letGoS_N, z_letGoS_C, z_letGoS_fr, z_letGoS_to, z_letGoS_tol, z_letGoS_sum, z_letGoS_rows, z_letGoS_ended, z_letGoS_latest, z_letGoS_q, z_letGoS_log, z_letGoS_fin, z_letGoS_stand, z_letGoS_over, z_letGoS_held, z_letGoS_M, z_letGoS_cond, z_letGoS_pos, z_letGoS_came, z_letGoS_kept, z_letGoS_kEnd, z_letGoS_kSum, z_letGoS_kRows, z_letGoS_fails, z_letGoS_taken, z_letGoS_acks, z_giveS_N, z_giveS_C, z_giveS_fr, z_giveS_to, z_giveS_tol, z_giveS_sum, z_giveS_rows, z_giveS_ended, z_giveS_latest, z_giveS_q, z_giveS_log, z_giveS_fin, z_giveS_stand, z_giveS_over, z_giveS_held, z_giveS_M, z_giveS_cond, z_giveS_pos, z_giveS_came, z_giveS_kept, z_giveS_kEnd, z_giveS_kSum, z_giveS_kRows, z_giveS_fails, z_giveS_taken, z_giveS_acks]) (by simp only [z_keepS_N, z_keepS_C, z_keepS_fr, z_keepS_to, z_keepS_tol, z_keepS_sum, z_keepS_rows, z_keepS_ended, z_keepS_latest, z_keepS_q, z_keepS_log, z_keepS_fin, z_keepS_stand, z_keepS_over, z_keepS_held, z_keepS_M, z_keepS_cond, z_keepS_pos, z_keepS_came, z_keepS_kept, z_keepS_kEnd, z_keepS_kSum, z_keepS_kRows, z_keepS_fails, z_keepS_taken, z_keepS_acks, z_letGoS_N, z_letGoS_C, z_letGoS_fr, z_letGoS_to, z_letGoS_tol, z_letGoS_sum, z_letGoS_rows, z_letGoS_ended, z_letGoS_latest, z_letGoS_q, z_letGoS_log, z_letGoS_fin, z_letGoS_stand, z_letGoS_over, z_letGoS_held, z_letGoS_M, z_letGoS_cond, z_letGoS_pos, z_letGoS_came, z_letGoS_kept, z_letGoS_kEnd, z_letGoS_kSum, z_letGoS_kRows, z_letGoS_fails, z_letGoS_taken, z_letGoS_acks, z_giveS_N, z_giveS_C, z_giveS_fr, z_giveS_to, z_giveS_tol, z_giveS_sum, z_giveS_rows, z_giveS_ended, z_giveS_latest, z_giveS_q, z_giveS_log, z_giveS_fin, z_giveS_stand, z_giveS_over, z_giveS_held, z_giveS_M, z_giveS_cond, z_giveS_pos, z_giveS_came, z_giveS_kept, z_giveS_kEnd, z_giveS_kSum, z_giveS_kRows, z_giveS_fails, z_giveS_taken, z_giveS_acks]) (by simp only [z_keepS_N, z_keepS_C, z_keepS_fr, z_keepS_to, z_keepS_tol, z_keepS_sum, z_keepS_rows, z_keepS_ended, z_keepS_latest, z_keepS_q, z_keepS_log, z_keepS_fin, z_keepS_stand, z_keepS_over, z_keepS_held, z_keepS_M, z_keepS_cond, z_keepS_pos, z_keepS_came, z_keepS_kept, z_keepS_kEnd, z_keepS_kSum, z_keepS_kRows, z_keepS_fails, z_keepS_taken, z_keepS_acks, z_letGoS_N, z_letGoS_C, z_letGoS_fr, z_letGoS_to, z_letGoS_tol, z_letGoS_sum, z_letGoS_rows, z_letGoS_ended, z_letGoS_latest, z_letGoS_q, z_letGoS_log, z_letGoS_fin, z_letGoS_stand, z_letGoS_over, z_letGoS_held, z_letGoS_M, z_letGoS_cond, z_letGoS_pos, z_letGoS_came, z_letGoS_kept, z_letGoS_kEnd, z_letGoS_kSum, z_letGoS_kRows, z_letGoS_fails, z_letGoS_taken, z_letGoS_acks, z_giveS_N, z_giveS_C, z_giveS_fr, z_giveS_to, z_giveS_tol, z_giveS_sum, z_giveS_rows, z_giveS_ended, z_giveS_latest, z_giveS_q, z_giveS_log, z_giveS_fin, z_giveS_stand, z_giveS_over, z_giveS_held, z_giveS_M, z_giveS_cond, z_giveS_pos, z_giveS_came, z_giveS_kept, z_giveS_kEnd, z_giveS_kSum, z_giveS_kRows, z_giveS_fails, z_giveS_taken, z_giveS_acks]) (by simp only [z_keepS_N, z_keepS_C, z_keepS_fr, z_keepS_to, z_keepS_tol, z_keepS_sum, z_keepS_rows, z_keepS_ended, z_keepS_latest, z_keepS_q, z_keepS_log, z_keepS_fin, z_keepS_stand, z_keepS_over, z_keepS_held, z_keepS_M, z_keepS_cond, z_keepS_pos, z_keepS_came, z_keepS_kept, z_keepS_kEnd, z_keepS_kSum, z_keepS_kRows, z_keepS_fails, z_keepS_taken, z_keepS_acks, z_letGoS_N, z_letGoS_C, z_letGoS_fr, z_letGoS_to, z_letGoS_tol, z_letGoS_sum, z_letGoS_rows, z_letGoS_ended, z_letGoS_latest, z_letGoS_q, z_letGoS_log, z_letGoS_fin, z_letGoS_stand, z_letGoS_over, z_letGoS_held, z_letGoS_M, z_letGoS_cond, z_letGoS_pos, z_letGoS_came, z_letGoS_kept, z_letGoS_kEnd, z_letGoS_kSum, z_letGoS_kRows, z_letGoS_fails, z_letGoS_taken, z_letGoS_acks, z_giveS_N, z_giveS_C, z_giveS_fr, z_giveS_to, z_giveS_tol, z_giveS_sum, z_giveS_rows, z_giveS_ended, z_giveS_latest, z_giveS_q, z_giveS_log, z_giveS_fin, z_giveS_stand, z_giveS_over, z_giveS_held, z_giveS_M, z_giveS_cond, z_giveS_pos, z_giveS_came, z_giveS_kept, z_giveS_kEnd, z_giveS_kSum, z_giveS_kRows, z_giveS_fails, z_giveS_taken, z_giveS_acks]) (by simp only [z_keepS_N, z_keepS_C, z_keepS_fr, z_keepS_to, z_keepS_tol, z_keepS_sum, z_keepS_rows, z_keepS_ended, z_keepS_latest, z_keepS_q, z_keepS_log, z_keepS_fin, z_keepS_stand, z_keepS_over, z_keepS_held, z_keepS_M, z_keepS_cond, z_keepS_pos, z_keepS_came, z_keepS_kept, z_keepS_kEnd, z_keepS_kSum, z_keepS_kRows, z_keepS_fails, z_keepS_taken, z_keepS_acks, z_letGoS_N, z_letGoS_C, z_letGoS_fr, z_letGoS_to, z_letGoS_tol, z_letGoS_sum, z_letGoS_rows, z_letGoS_ended, z_letGoS_latest, z_letGoS_q, z_letGoS_log, z_letGoS_fin, z_letGoS_stand, z_letGoS_over, z_letGoS_held, z_letGoS_M, z_letGoS_cond, z_letGoS_pos, z_letGoS_came, z_letGoS_kept, z_letGoS_kEnd, z_letGoS_kSum, z_letGoS_kRows, z_letGoS_fails, z_letGoS_taken, z_letGoS_acks, z_giveS_N, z_giveS_C, z_giveS_fr, z_giveS_to, z_giveS_tol, z_giveS_sum, z_giveS_rows, z_giveS_ended, z_giveS_latest, z_giveS_q, z_giveS_log, z_giveS_fin, z_giveS_stand, z_giveS_over, z_giveS_held, z_giveS_M, z_giveS_cond, z_giveS_pos, z_giveS_came, z_giveS_kept, z_giveS_kEnd, z_giveS_kSum, z_giveS_kRows, z_giveS_fails, z_giveS_taken, z_giveS_acks]) (by simp only [z_keepS_N, z_keepS_C, z_keepS_fr, z_keepS_to, z_keepS_tol, z_keepS_sum, z_keepS_rows, z_keepS_ended, z_keepS_latest, z_keepS_q, z_keepS_log, z_keepS_fin, z_keepS_stand, z_keepS_over, z_keepS_held, z_keepS_M, z_keepS_cond, z_keepS_pos, z_keepS_came, z_keepS_kept, z_keepS_kEnd, z_keepS_kSum, z_keepS_kRows, z_keepS_fails, z_keepS_taken, z_keepS_acks, z_letGoS_N, z_letGoS_C, z_letGoS_fr, z_letGoS_to, z_letGoS_tol, z_letGoS_sum, z_letGoS_rows, z_letGoS_ended, z_letGoS_latest, z_letGoS_q, z_letGoS_log, z_letGoS_fin, z_letGoS_stand, z_letGoS_over, z_letGoS_held, z_letGoS_M, z_letGoS_cond, z_letGoS_pos, z_letGoS_came, z_letGoS_kept, z_letGoS_kEnd, z_letGoS_kSum, z_letGoS_kRows, z_letGoS_fails, z_letGoS_taken, z_letGoS_acks, z_giveS_N, z_giveS_C, z_giveS_fr, z_giveS_to, z_giveS_tol, z_giveS_sum, z_giveS_rows, z_giveS_ended, z_giveS_latest, z_giveS_q, z_giveS_log, z_giveS_fin, z_giveS_stand, z_giveS_over, z_giveS_held, z_giveS_M, z_giveS_cond, z_giveS_pos, z_giveS_came, z_giveS_kept, z_giveS_kEnd, z_giveS_kSum, z_giveS_kRows, z_giveS_fails, z_giveS_taken, z_giveS_acks]) (by simp only [z_keepS_N, z_keepS_C, z_keepS_fr, z_keepS_to, z_keepS_tol, z_keepS_sum, z_keepS_rows, z_keepS_ended, z_keepS_latest, z_keepS_q, z_keepS_log, z_keepS_fin, z_keepS_stand, z_keepS_over, z_keepS_held, z_keepS_M, z_keepS_cond, z_keepS_pos, z_keepS_came, z_keepS_kept, z_keepS_kEnd, z_keepS_kSum, z_keepS_kRows, z_keepS_fails, z_keepS_taken, z_keepS_acks, z_letGoS_N, z_letGoS_C, z_letGoS_fr, z_letGoS_to, z_letGoS_tol, z_letGoS_sum, z_letGoS_rows, z_letGoS_ended, z_letGoS_latest, z_letGoS_q, z_letGoS_log, z_letGoS_fin, z_letGoS_stand, z_letGoS_over, z_letGoS_held, z_letGoS_M, z_letGoS_cond, z_letGoS_pos, z_letGoS_came, z_letGoS_kept, z_letGoS_kEnd, z_letGoS_kSum, z_letGoS_kRows, z_letGoS_fails, z_letGoS_taken, z_letGoS_acks, z_giveS_N, z_giveS_C, z_giveS_fr, z_giveS_to, z_giveS_tol, z_giveS_sum, z_giveS_rows, z_giveS_ended, z_giveS_latest, z_giveS_q, z_giveS_log, z_giveS_fin, z_giveS_stand, z_giveS_over, z_giveS_held, z_giveS_M, z_giveS_cond, z_giveS_pos, z_giveS_came, z_giveS_kept, z_giveS_kEnd, z_giveS_kSum, z_giveS_kRows, z_giveS_fails, z_giveS_taken, z_giveS_acks]) (by simp only [z_keepS_N, z_keepS_C, z_keepS_fr, z_keepS_to, z_keepS_tol, z_keepS_sum, z_keepS_rows, z_keepS_ended, z_keepS_latest, z_keepS_q, z_keepS_log, z_keepS_fin, z_keepS_stand, z_keepS_over, z_keepS_held, z_keepS_M, z_keepS_cond, z_keepS_pos, z_keepS_came, z_keepS_kept, z_keepS_kEnd, z_keepS_kSum, z_keepS_kRows, z_keepS_fails, z_keepS_taken, z_keepS_acks, z_letGoS_N, z_letGoS_C, z_letGoS_fr, z_letGoS_to, z_letGoS_tol, z_letGoS_sum, z_letGoS_rows, z_letGoS_ended, z_letGoS_latest, z_letGoS_q, z_letGoS_log, z_letGoS_fin, z_letGoS_stand, z_letGoS_over, z_letGoS_held, z_letGoS_M, z_letGoS_cond, z_letGoS_pos, z_letGoS_came, z_letGoS_kept, z_letGoS_kEnd, z_letGoS_kSum, z_letGoS_kRows, z_letGoS_fails, z_letGoS_taken, z_letGoS_acks, z_giveS_N, z_giveS_C, z_giveS_fr, z_giveS_to, z_giveS_tol, z_giveS_sum, z_giveS_rows, z_giveS_ended, z_giveS_latest, z_giveS_q, z_giveS_log, z_giveS_fin, z_giveS_stand, z_giveS_over, z_giveS_held, z_giveS_M, z_giveS_cond, z_giveS_pos, z_giveS_came, z_giveS_kept, z_giveS_kEnd, z_giveS_kSum, z_giveS_kRows, z_giveS_fails, z_giveS_taken, z_giveS_acks]) (by simp only [z_keepS_N, z_keepS_C, z_keepS_fr, z_keepS_to, z_keepS_tol, z_keepS_sum, z_keepS_rows, z_keepS_ended, z_keepS_latest, z_keepS_q, z_keepS_log, z_keepS_fin, z_keepS_stand, z_keepS_over, z_keepS_held, z_keepS_M, z_keepS_cond, z_keepS_pos, z_keepS_came, z_keepS_kept, z_keepS_kEnd, z_keepS_kSum, z_keepS_kRows, z_keepS_fails, z_keepS_taken, z_keepS_acks, z_letGoS_N, z_letGoS_C, z_letGoS_fr, z_letGoS_to, z_letGoS_tol, z_letGoS_sum, z_letGoS_rows, z_letGoS_ended, z_letGoS_latest, z_letGoS_q, z_letGoS_log, z_letGoS_fin, z_letGoS_stand, z_letGoS_over, z_letGoS_held, z_letGoS_M, z_letGoS_cond, z_letGoS_pos, z_letGoS_came, z_letGoS_kept, z_letGoS_kEnd, z_letGoS_kSum, z_letGoS_kRows, z_letGoS_fails, z_letGoS_taken, z_letGoS_acks, z_giveS_N, z_giveS_C, z_giveS_fr, z_giveS_to, z_giveS_tol, z_giveS_sum, z_giveS_rows, z_giveS_ended, z_giveS_latest, z_giveS_q, z_giveS_log, z_giveS_fin, z_giveS_stand, z_giveS_over, z_giveS_held, z_giveS_M, z_giveS_cond, z_giveS_pos, z_giveS_came, z_giveS_kept, z_giveS_kEnd, z_giveS_kSum, z_giveS_kRows, z_giveS_fails, z_giveS_taken, z_giveS_acks]) (by simp only [z_keepS_N, z_keepS_C, z_keepS_fr, z_keepS_to, z_keepS_tol, z_keepS_sum, z_keepS_rows, z_keepS_ended, z_keepS_latest, z_keepS_q, z_keepS_log, z_keepS_fin, z_keepS_stand, z_keepS_over, z_keepS_held, z_keepS_M, z_keepS_cond, z_keepS_pos, z_keepS_came, z_keepS_kept, z_keepS_kEnd, z_keepS_kSum, z_keepS_kRows, z_keepS_fails, z_keepS_taken, z_keepS_acks, z_letGoS_N, z_letGoS_C, z_letGoS_fr, z_letGoS_to, z_letGoS_tol, z_letGoS_sum, z_letGoS_rows, z_letGoS_ended, z_letGoS_latest, z_letGoS_q, z_letGoS_log, z_letGoS_fin, z_letGoS_stand, z_letGoS_over, z_letGoS_held, z_letGoS_M, z_letGoS_cond, z_letGoS_pos, z_letGoS_came, z_letGoS_kept, z_letGoS_kEnd, z_letGoS_kSum, z_letGoS_kRows, z_letGoS_fails, z_letGoS_taken, z_letGoS_acks, z_giveS_N, z_giveS_C, z_giveS_fr, z_giveS_to, z_giveS_tol, z_giveS_sum, z_giveS_rows, z_giveS_ended, z_giveS_latest, z_giveS_q, z_giveS_log, z_giveS_fin, z_giveS_stand, z_giveS_over, z_giveS_held, z_giveS_M, z_giveS_cond, z_giveS_pos, z_giveS_came, z_giveS_kept, z_giveS_kEnd, z_giveS_kSum, z_giveS_kRows, z_giveS_fails, z_giveS_taken, z_giveS_acks])
set_option maxHeartbeats 2000000 in
theorem fB_keepFor_eq (g : Cls e t s) (w : Wf s) {x m : Nat} (hx : x < s_N s) (hm : m < s_M s) (h0 : s_cond s m = 0) (hA9 : (s_acks s).length < 520) : ∃ t', fB_keepFor (pv e t) n (pL e 0 0 0) (some (pL e 2 x 0)) (some (pL e 5 m 0)) = some (.inl (some (.int (nI (if credit s x then (if s_fails s m x then 5 else 4) else 0)))), pv e t', n) ∧ Cls e t' (if credit s x then (if s_fails s m x then closeS s m 2 else letGoS (giveS (keepS s m x) x 1 (lN m)) x (s_C s)) else s) ∧ Fr PC t t' := by
  have hN1 := w.N1; have hN8 := w.N8; have hC := w.C; have hM := w.M; have hA := w.ackn
  have o0 := ClsG.o0 g
  have o2 := ClsG.o2 g hx
  have o5 := ClsG.o5 g hm
  have hN : s_N s < 2 ^ 31 := by omega
  have hcd := fT_hasCredits_eq (n := n) g w hx
  have t0 := (ClsG.T g x hx).1
  obtain ⟨mm0, mm1, mm2, mm3, mm4, mm5, mm6, mm7, mm8⟩ := ClsG.M g m hm
  have mx : rI t 5 m 2 x = b2i (s_fails s m x) := mm2 x hx
  cases hcr : credit s x with
  | false =>
    rw [hcr] at hcd
    refine ⟨t, ?_, g, Fr.refl _ _⟩
    unfold fB_keepFor
    simp (disch := first | assumption | omega | exact b2i_01 _ | exact Or.inl rfl | exact Or.inr rfl) only [b0 o0, f0_0 o0, f0_1 o0, f0_2 o0, f0_3 o0, f0_4 o0, f0_5 o0, f0_6 o0, p0_6 o0, f0_7 o0, p0_7 o0, f0_8 o0, p0_8 o0, f0_9 o0, p0_9 o0, a0_1 o0, g0_2 o0, a0_2 o0, g0_3 o0, a0_3 o0, a0_4 o0, a0_5 o0, g0_1 o0 hN, g0_4 o0 hN, s0_4 o0 hN, g0_5 o0 hN, s0_5 o0 hN, b2 o2, f2_0 o2, p2_0 o2, f2_1 o2, f2_2 o2, f2_3 o2, p2_3 o2, f2_4 o2, p2_4 o2, f2_5 o2, p2_5 o2, f2_6 o2, p2_6 o2, f2_7 o2, p2_7 o2, f2_8 o2, p2_8 o2, g2_1 o2, a2_1 o2, g2_2 o2, a2_2 o2, b5 o5, f5_0 o5, p5_0 o5, f5_1 o5, f5_2 o5, f5_3 o5, f5_4 o5, f5_5 o5, f5_6 o5, f5_7 o5, p5_7 o5, f5_8 o5, p5_8 o5, a5_1 o5, a5_2 o5, a5_3 o5, a5_4 o5, a5_5 o5, a5_6 o5, g5_1 o5 hN, s5_1 o5 hN, g5_2 o5 hN, s5_2 o5 hN, g5_3 o5 hN, s5_3 o5 hN, g5_4 o5 hN, s5_4 o5 hN, g5_5 o5 hN, s5_5 o5 hN, g5_6 o5 hN, s5_6 o5 hN, rI_uI, rI_uJ, rI_uR, rI_wI, rI_wJ, rJ_uJ, rJ_uI, rJ_uR, rJ_wI, rJ_wJ, rR_uR, rR_uI, rR_uJ, rR_wI, rR_wJ, qI_wI, qI_wJ, qI_uI, qI_uJ, qI_uR, qJ_wJ, qJ_wI, qJ_uI, qJ_uJ, qJ_uR, Option.bind_some, zcV_s, zcI_s, zcL_s, zrI, zrV, zrL, nI_mul8, nI_mul16, nI_mul200, nI_1, eq_self, Nat.reduceEqDiff, and_true, true_and, and_false, false_and, and_self, ite_true, ite_false, ↓reduceIte, Nat.add_zero, if_true, if_false, b2i_t, b2i_f, o2i_s, o2i_n, zdI_s, zdV_s, zdL_s, zcR_s, zcV_x, zcI_x, zcL_x, zcR_x, zrR_s, zth_s, nI_leI, nI_ltI, nI_eq, nI_eq0, nI_eqm1, b2i_eq0, hcd]
    rfl
  | true =>
    rw [hcr] at hcd
    cases hfl : s_fails s m x with
    | true =>
      rw [hfl] at mx
      obtain ⟨t1, h1, g1, F1⟩ := fB_stopMark_eq (n := n) (m := m) (how := 2) g w hm h0 (by omega) (by omega)
      have h1' : fB_stopMark (pv e t) n (pL e 0 0 0) (some (pL e 5 m 0)) 2 = some (.inl none, pv e t1, n) := h1
      refine ⟨t1, ?_, g1, F1⟩
      unfold fB_keepFor
      simp (disch := first | assumption | omega | exact b2i_01 _ | exact Or.inl rfl | exact Or.inr rfl) only [b0 o0, f0_0 o0, f0_1 o0, f0_2 o0, f0_3 o0, f0_4 o0, f0_5 o0, f0_6 o0, p0_6 o0, f0_7 o0, p0_7 o0, f0_8 o0, p0_8 o0, f0_9 o0, p0_9 o0, a0_1 o0, g0_2 o0, a0_2 o0, g0_3 o0, a0_3 o0, a0_4 o0, a0_5 o0, g0_1 o0 hN, g0_4 o0 hN, s0_4 o0 hN, g0_5 o0 hN, s0_5 o0 hN, b2 o2, f2_0 o2, p2_0 o2, f2_1 o2, f2_2 o2, f2_3 o2, p2_3 o2, f2_4 o2, p2_4 o2, f2_5 o2, p2_5 o2, f2_6 o2, p2_6 o2, f2_7 o2, p2_7 o2, f2_8 o2, p2_8 o2, g2_1 o2, a2_1 o2, g2_2 o2, a2_2 o2, b5 o5, f5_0 o5, p5_0 o5, f5_1 o5, f5_2 o5, f5_3 o5, f5_4 o5, f5_5 o5, f5_6 o5, f5_7 o5, p5_7 o5, f5_8 o5, p5_8 o5, a5_1 o5, a5_2 o5, a5_3 o5, a5_4 o5, a5_5 o5, a5_6 o5, g5_1 o5 hN, s5_1 o5 hN, g5_2 o5 hN, s5_2 o5 hN, g5_3 o5 hN, s5_3 o5 hN, g5_4 o5 hN, s5_4 o5 hN, g5_5 o5 hN, s5_5 o5 hN, g5_6 o5 hN, s5_6 o5 hN, rI_uI, rI_uJ, rI_uR, rI_wI, rI_wJ, rJ_uJ, rJ_uI, rJ_uR, rJ_wI, rJ_wJ, rR_uR, rR_uI, rR_uJ, rR_wI, rR_wJ, qI_wI, qI_wJ, qI_uI, qI_uJ, qI_uR, qJ_wJ, qJ_wI, qJ_uI, qJ_uJ, qJ_uR, Option.bind_some, zcV_s, zcI_s, zcL_s, zrI, zrV, zrL, nI_mul8, nI_mul16, nI_mul200, nI_1, eq_self, Nat.reduceEqDiff, and_true, true_and, and_false, false_and, and_self, ite_true, ite_false, ↓reduceIte, Nat.add_zero, if_true, if_false, b2i_t, b2i_f, o2i_s, o2i_n, zdI_s, zdV_s, zdL_s, zcR_s, zcV_x, zcI_x, zcL_x, zcR_x, zrR_s, zth_s, nI_leI, nI_ltI, nI_eq, nI_eq0, nI_eqm1, b2i_eq0, hcd, t0, mx, i10, h1']
      rfl
    | false =>
      rw [hfl] at mx
      obtain ⟨t1, h1, g1, F1⟩ := fT_putOut_eq (n := n) (k := 1) g w (x := x) hx (lN m) (fun c hc => by have := credit_q hcr hc; omega)
      have h1' : fT_putOut (pv e t) n (pL e 2 x 0) 1 (lN m) = some (.inl none, pv e t1, n) := h1
      have w1 : Wf (giveS s x 1 (lN m)) := w.give (by omega) (fun c hc hf => by have := credit_q hcr (mem_outs.mpr ⟨hc, hf⟩); omega) (fun _ => ⟨m, hm, rfl⟩)
      obtain ⟨t2, h2, g2, F2⟩ := fT_letGo_eq (n := n) g1 w1 (x := x) (by rw [z_giveS_N]; exact hx)
      rw [z_giveS_C] at g2
      have w2 : Wf (letGoS (giveS s x 1 (lN m)) x (s_C s)) := w1.lg
      obtain ⟨t3, h3, g3, F3⟩ := fB_keepAndAck_eq (n := n) g2 w2 (m := m) (x := x) (by rw [z_letGoS_M, z_giveS_M]; exact hm) (by rw [z_letGoS_N, z_giveS_N]; exact hx) (by rw [z_letGoS_acks, z_giveS_acks]; exact hA9)
      rw [kgl] at g3
      refine ⟨t3, ?_, ?_, F1.trans (F2.trans F3)⟩
      · unfold fB_keepFor
        simp (disch := first | assumption | omega | exact b2i_01 _ | exact Or.inl rfl | exact Or.inr rfl) only [b0 o0, f0_0 o0, f0_1 o0, f0_2 o0, f0_3 o0, f0_4 o0, f0_5 o0, f0_6 o0, p0_6 o0, f0_7 o0, p0_7 o0, f0_8 o0, p0_8 o0, f0_9 o0, p0_9 o0, a0_1 o0, g0_2 o0, a0_2 o0, g0_3 o0, a0_3 o0, a0_4 o0, a0_5 o0, g0_1 o0 hN, g0_4 o0 hN, s0_4 o0 hN, g0_5 o0 hN, s0_5 o0 hN, b2 o2, f2_0 o2, p2_0 o2, f2_1 o2, f2_2 o2, f2_3 o2, p2_3 o2, f2_4 o2, p2_4 o2, f2_5 o2, p2_5 o2, f2_6 o2, p2_6 o2, f2_7 o2, p2_7 o2, f2_8 o2, p2_8 o2, g2_1 o2, a2_1 o2, g2_2 o2, a2_2 o2, b5 o5, f5_0 o5, p5_0 o5, f5_1 o5, f5_2 o5, f5_3 o5, f5_4 o5, f5_5 o5, f5_6 o5, f5_7 o5, p5_7 o5, f5_8 o5, p5_8 o5, a5_1 o5, a5_2 o5, a5_3 o5, a5_4 o5, a5_5 o5, a5_6 o5, g5_1 o5 hN, s5_1 o5 hN, g5_2 o5 hN, s5_2 o5 hN, g5_3 o5 hN, s5_3 o5 hN, g5_4 o5 hN, s5_4 o5 hN, g5_5 o5 hN, s5_5 o5 hN, g5_6 o5 hN, s5_6 o5 hN, rI_uI, rI_uJ, rI_uR, rI_wI, rI_wJ, rJ_uJ, rJ_uI, rJ_uR, rJ_wI, rJ_wJ, rR_uR, rR_uI, rR_uJ, rR_wI, rR_wJ, qI_wI, qI_wJ, qI_uI, qI_uJ, qI_uR, qJ_wJ, qJ_wI, qJ_uI, qJ_uJ, qJ_uR, Option.bind_some, zcV_s, zcI_s, zcL_s, zrI, zrV, zrL, nI_mul8, nI_mul16, nI_mul200, nI_1, eq_self, Nat.reduceEqDiff, and_true, true_and, and_false, false_and, and_self, ite_true, ite_false, ↓reduceIte, Nat.add_zero, if_true, if_false, b2i_t, b2i_f, o2i_s, o2i_n, zdI_s, zdV_s, zdL_s, zcR_s, zcV_x, zcI_x, zcL_x, zcR_x, zrR_s, zth_s, nI_leI, nI_ltI, nI_eq, nI_eq0, nI_eqm1, b2i_eq0, hcd, i10, t0, mx, mm0, nI_l (show m < 2 ^ 31 by omega), h1', h2, h3]
        rfl
      · show Cls e t3 (letGoS (giveS (keepS s m x) x 1 (lN m)) x (s_C s))
        unfold Cls
        rw [z_letGoS_M, z_giveS_M, z_keepS_M, show dueS (letGoS (giveS (keepS s m x) x 1 (lN m)) x (s_C s)) = dueS s from by funext c; unfold dueS; rw [z_letGoS_M, z_giveS_M, z_keepS_M, z_letGoS_cond, z_giveS_cond, z_keepS_cond, z_letGoS_came, z_giveS_came, z_keepS_came]]
        exact g3
/-- what the class's turn needs of a state -/
def GC (s : zSt) (x : Nat) : Prop := (∀ c, c ∈ ins s x → DueOk s c ∧ OvOk s c) ∧ (∀ c, c ∈ outs s x → (s_q s c).length ≤ 8) ∧ (s_acks s).length + (NKs s x).length ≤ 520 ∧ (∀ m, heldS s x = some m → m ∈ NKs s x)
theorem hasIn_len (s : zSt) (x : Nat) : hasIn s x = false ↔ (ins s x).length = 0 := by
  unfold hasIn
  cases ins s x <;> simp
set_option maxHeartbeats 2000000 in
theorem fB_takeNext_eq (g : Cls e t s) (w : Wf s) {x : Nat} (hx : x < s_N s) (hC : 0 < s_C s) (hd : ∀ c, c ∈ ins s x → DueOk s c) (ho : ∀ c, c ∈ ins s x → OvOk s c) : ∃ t', fB_takeNext (pv e t) n (pL e 0 0 0) (some (pL e 2 x 0)) = some (.inl (some (.int (nI (pickT s x (pickS s x)).1))), pv e t', n) ∧ Cls e t' (pickT s x (pickS s x)).2 ∧ Fr PC t t' := by
  have o2 := ClsG.o2 g hx
  obtain ⟨hs, hnn⟩ := fT_nextOffer_eq (n := n) g w hx hC hd ho
  cases hp : pickS s x with
  | none =>
    have h1 := hnn hp
    refine ⟨t, ?_, g, Fr.refl _ _⟩
    unfold fB_takeNext
    generalize fB_takeNext_45 = G
    simp (disch := first | assumption | omega | exact b2i_01 _ | exact Or.inl rfl | exact Or.inr rfl) only [b2 o2, f2_0 o2, p2_0 o2, f2_1 o2, f2_2 o2, f2_3 o2, p2_3 o2, f2_4 o2, p2_4 o2, f2_5 o2, p2_5 o2, f2_6 o2, p2_6 o2, f2_7 o2, p2_7 o2, f2_8 o2, p2_8 o2, g2_1 o2, a2_1 o2, g2_2 o2, a2_2 o2, rI_uI, rI_uJ, rI_uR, rI_wI, rI_wJ, rJ_uJ, rJ_uI, rJ_uR, rJ_wI, rJ_wJ, rR_uR, rR_uI, rR_uJ, rR_wI, rR_wJ, qI_wI, qI_wJ, qI_uI, qI_uJ, qI_uR, qJ_wJ, qJ_wI, qJ_uI, qJ_uJ, qJ_uR, Option.bind_some, zcV_s, zcI_s, zcL_s, zrI, zrV, zrL, nI_mul8, nI_mul16, nI_mul200, nI_1, eq_self, Nat.reduceEqDiff, and_true, true_and, and_false, false_and, and_self, ite_true, ite_false, ↓reduceIte, Nat.add_zero, if_true, if_false, b2i_t, b2i_f, o2i_s, o2i_n, zdI_s, zdV_s, zdL_s, zcR_s, zcV_x, zcI_x, zcL_x, zcR_x, zrR_s, zth_s, nI_leI, nI_ltI, nI_eq, nI_eq0, nI_eqm1, b2i_eq0, h1]
    rfl
  | some c =>
    obtain ⟨a, ha, hof⟩ := hs c hp
    have hcm : c ∈ ins s x := List.mem_of_getElem? ha
    have hpk := List.find?_some (by rw [pickS_eq] at hp; exact hp)
    unfold pkP at hpk
    rw [Bool.and_eq_true] at hpk
    obtain ⟨k, hk⟩ := Option.isSome_iff_exists.mp hpk.2
    have hk2 := nextS_le w hk
    show ∃ t', fB_takeNext (pv e t) n (pL e 0 0 0) (some (pL e 2 x 0)) = some (.inl (some (.int (nI (takeS s x c).1))), pv e t', n) ∧ Cls e t' (takeS s x c).2 ∧ Fr PC t t'
    match k, hk2 with
    | 0, _ =>
      cases hcr : credit s x with
      | true =>
        rw [fB_takeNext_run g w hx (hd c hcm) (ho c hcm) ha hof hk (fun _ => hcr)]
        obtain ⟨t1, h1, g1, h2, F1⟩ := take_0 (n := n) g w hx (hd c hcm) ha hk hcr
        exact ⟨t1, by rw [nI0, h1, h2]; rfl, g1, F1⟩
      | false =>
        have e1 : takeS s x c = (0, s) := by
          unfold takeS
          rw [hk]
          simp only [hcr, Bool.false_eq_true, if_false]
        rw [e1]
        refine ⟨t, ?_, g, Fr.refl _ _⟩
        have hal := (List.getElem?_eq_some_iff.mp ha).1
        have hl16 := ins_le w x
        have hc := (mem_ins.mp hcm).1
        have hnk := Cls.nextKind (n := n) g hc (hd c hcm) (ho c hcm)
        rw [hk] at hnk
        have hv := val_eq (n := n) g hc
        have hcd := fT_hasCredits_eq (n := n) g w hx
        rw [hcr] at hcd
        have hd1 := ch_d (α := zR) (t := t) (ClsG.E g) hc (fun a => fS_nextKind (pv e t) n a) (fun a => fL_nextKind (pv e t) n a)
        have hd2 := ch_d (α := zR) (t := t) (ClsG.E g) hc (fun a => fS_nextValue (pv e t) n a) (fun a => fL_nextValue (pv e t) n a)
        have hri := ClsG.ri g hx ha
        have hm1 : ¬ nI a = -1 := by rw [nI_eqm1 (by omega)]; exact id
        unfold fB_takeNext
        generalize fB_takeNext_45 = G
        generalize fS_nextKind = GS at hd1 hnk ⊢
        generalize fL_nextKind = GL at hd1 hnk ⊢
        generalize fS_nextValue = HS at hd2 hv ⊢
        generalize fL_nextValue = HL at hd2 hv ⊢
        simp (disch := first | assumption | omega | exact b2i_01 _ | exact Or.inl rfl | exact Or.inr rfl) only [b2 o2, f2_0 o2, p2_0 o2, f2_1 o2, f2_2 o2, f2_3 o2, p2_3 o2, f2_4 o2, p2_4 o2, f2_5 o2, p2_5 o2, f2_6 o2, p2_6 o2, f2_7 o2, p2_7 o2, f2_8 o2, p2_8 o2, g2_1 o2, a2_1 o2, g2_2 o2, a2_2 o2, rI_uI, rI_uJ, rI_uR, rI_wI, rI_wJ, rJ_uJ, rJ_uI, rJ_uR, rJ_wI, rJ_wJ, rR_uR, rR_uI, rR_uJ, rR_wI, rR_wJ, qI_wI, qI_wJ, qI_uI, qI_uJ, qI_uR, qJ_wJ, qJ_wI, qJ_uI, qJ_uJ, qJ_uR, Option.bind_some, zcV_s, zcI_s, zcL_s, zrI, zrV, zrL, nI_mul8, nI_mul16, nI_mul200, nI_1, eq_self, Nat.reduceEqDiff, and_true, true_and, and_false, false_and, and_self, ite_true, ite_false, ↓reduceIte, Nat.add_zero, if_true, if_false, b2i_t, b2i_f, o2i_s, o2i_n, zdI_s, zdV_s, zdL_s, zcR_s, zcV_x, zcI_x, zcL_x, zcR_x, zrR_s, zth_s, nI_leI, nI_ltI, nI_eq, nI_eq0, nI_eqm1, b2i_eq0, hof, hm1, hri]
        rw [hd1 (fun a => zdI a _), hnk]
        simp (disch := first | assumption | omega | exact b2i_01 _ | exact Or.inl rfl | exact Or.inr rfl) only [b2 o2, f2_0 o2, p2_0 o2, f2_1 o2, f2_2 o2, f2_3 o2, p2_3 o2, f2_4 o2, p2_4 o2, f2_5 o2, p2_5 o2, f2_6 o2, p2_6 o2, f2_7 o2, p2_7 o2, f2_8 o2, p2_8 o2, g2_1 o2, a2_1 o2, g2_2 o2, a2_2 o2, rI_uI, rI_uJ, rI_uR, rI_wI, rI_wJ, rJ_uJ, rJ_uI, rJ_uR, rJ_wI, rJ_wJ, rR_uR, rR_uI, rR_uJ, rR_wI, rR_wJ, qI_wI, qI_wJ, qI_uI, qI_uJ, qI_uR, qJ_wJ, qJ_wI, qJ_uI, qJ_uJ, qJ_uR, Option.bind_some, zcV_s, zcI_s, zcL_s, zrI, zrV, zrL, nI_mul8, nI_mul16, nI_mul200, nI_1, eq_self, Nat.reduceEqDiff, and_true, true_and, and_false, false_and, and_self, ite_true, ite_false, ↓reduceIte, Nat.add_zero, if_true, if_false, b2i_t, b2i_f, o2i_s, o2i_n, zdI_s, zdV_s, zdL_s, zcR_s, zcV_x, zcI_x, zcL_x, zcR_x, zrR_s, zth_s, nI_leI, nI_ltI, nI_eq, nI_eq0, nI_eqm1, b2i_eq0]
        rw [hd2 (fun a => zdL a _), hv]
        simp (disch := first | assumption | omega | exact b2i_01 _ | exact Or.inl rfl | exact Or.inr rfl) only [b2 o2, f2_0 o2, p2_0 o2, f2_1 o2, f2_2 o2, f2_3 o2, p2_3 o2, f2_4 o2, p2_4 o2, f2_5 o2, p2_5 o2, f2_6 o2, p2_6 o2, f2_7 o2, p2_7 o2, f2_8 o2, p2_8 o2, g2_1 o2, a2_1 o2, g2_2 o2, a2_2 o2, rI_uI, rI_uJ, rI_uR, rI_wI, rI_wJ, rJ_uJ, rJ_uI, rJ_uR, rJ_wI, rJ_wJ, rR_uR, rR_uI, rR_uJ, rR_wI, rR_wJ, qI_wI, qI_wJ, qI_uI, qI_uJ, qI_uR, qJ_wJ, qJ_wI, qJ_uI, qJ_uJ, qJ_uR, Option.bind_some, zcV_s, zcI_s, zcL_s, zrI, zrV, zrL, nI_mul8, nI_mul16, nI_mul200, nI_1, eq_self, Nat.reduceEqDiff, and_true, true_and, and_false, false_and, and_self, ite_true, ite_false, ↓reduceIte, Nat.add_zero, if_true, if_false, b2i_t, b2i_f, o2i_s, o2i_n, zdI_s, zdV_s, zdL_s, zcR_s, zcV_x, zcI_x, zcL_x, zcR_x, zrR_s, zth_s, nI_leI, nI_ltI, nI_eq, nI_eq0, nI_eqm1, b2i_eq0, hcd, nI0]
    | 1, _ =>
      rw [fB_takeNext_run g w hx (hd c hcm) (ho c hcm) ha hof hk (fun z => by omega)]
      obtain ⟨t1, h1, g1, h2, F1⟩ := take_1 (n := n) g w hx (hd c hcm) ha hk
      exact ⟨t1, by rw [nI1, h1, h2]; rfl, g1, F1⟩
    | 2, _ =>
      rw [fB_takeNext_run g w hx (hd c hcm) (ho c hcm) ha hof hk (fun z => by omega)]
      obtain ⟨t1, h1, g1, h2, F1⟩ := take_2 (n := n) g w hx (hd c hcm) ha hk (if s_fr s c = none then sVal (s_log s c) (s_stand s c) (fun m => s_pos s m c) (dueS s c) else hdV (s_q s c))
      exact ⟨t1, by rw [nI2, h1, h2]; rfl, g1, F1⟩
theorem goS_k {x m : Nat} (he : s_ended s x = false) (hi : hasIn s x = true) (hall : (ins s x).all (fun c => (s_held s c).isSome || s_over s c) = true) (hh : heldS s x = some m) : goS s x = if credit s x then (if s_fails s m x then (5, closeS s m 2) else (4, letGoS (giveS (keepS s m x) x 1 (lN m)) x (s_C s))) else (0, s) := by
  have hCC : s_C s = s_C (giveS (keepS s m x) x 1 (lN m)) := by rw [z_giveS_C, z_keepS_C]
  rw [hCC]
  unfold goS
  rw [if_neg (by simp [he, hi]), if_pos hall, hh]
  unfold letGoS
  dsimp only
set_option maxHeartbeats 2000000 in
theorem fB_taskTurn_eq (g : Cls e t s) (w : Wf s) {x : Nat} (hx : x < s_N s) (hg : s_ended s x = false → GC s x) : ∃ t', fB_taskTurn (pv e t) n (pL e 0 0 0) (some (pL e 2 x 0)) = some (.inl (some (.int (nI (goS s x).1))), pv e t', n) ∧ Cls e t' (goS s x).2 ∧ Fr PC t t' := by
  have hN1 := w.N1; have hN8 := w.N8; have hC := w.C; have hM := w.M; have hA := w.ackn
  have o0 := ClsG.o0 g
  have o2 := ClsG.o2 g hx
  have hN : s_N s < 2 ^ 31 := by omega
  obtain ⟨t0, t1, t2, t3, t4, t5, t6⟩ := ClsG.T g x hx
  have hl16 := ins_le w x
  cases he : s_ended s x with
  | true =>
    have e1 : goS s x = (0, s) := by unfold goS; rw [if_pos (Or.inl he)]
    rw [e1]
    rw [he] at t6
    refine ⟨t, ?_, g, Fr.refl _ _⟩
    unfold fB_taskTurn
    generalize fB_endTask = G1
    generalize fB_keepFor = G2
    generalize fB_takeNext = G3
    simp (disch := first | assumption | omega | exact b2i_01 _ | exact Or.inl rfl | exact Or.inr rfl) only [b0 o0, f0_0 o0, f0_1 o0, f0_2 o0, f0_3 o0, f0_4 o0, f0_5 o0, f0_6 o0, p0_6 o0, f0_7 o0, p0_7 o0, f0_8 o0, p0_8 o0, f0_9 o0, p0_9 o0, a0_1 o0, g0_2 o0, a0_2 o0, g0_3 o0, a0_3 o0, a0_4 o0, a0_5 o0, g0_1 o0 hN, g0_4 o0 hN, s0_4 o0 hN, g0_5 o0 hN, s0_5 o0 hN, b2 o2, f2_0 o2, p2_0 o2, f2_1 o2, f2_2 o2, f2_3 o2, p2_3 o2, f2_4 o2, p2_4 o2, f2_5 o2, p2_5 o2, f2_6 o2, p2_6 o2, f2_7 o2, p2_7 o2, f2_8 o2, p2_8 o2, g2_1 o2, a2_1 o2, g2_2 o2, a2_2 o2, rI_uI, rI_uJ, rI_uR, rI_wI, rI_wJ, rJ_uJ, rJ_uI, rJ_uR, rJ_wI, rJ_wJ, rR_uR, rR_uI, rR_uJ, rR_wI, rR_wJ, qI_wI, qI_wJ, qI_uI, qI_uJ, qI_uR, qJ_wJ, qJ_wI, qJ_uI, qJ_uJ, qJ_uR, Option.bind_some, zcV_s, zcI_s, zcL_s, zrI, zrV, zrL, nI_mul8, nI_mul16, nI_mul200, nI_1, eq_self, Nat.reduceEqDiff, and_true, true_and, and_false, false_and, and_self, ite_true, ite_false, ↓reduceIte, Nat.add_zero, if_true, if_false, b2i_t, b2i_f, o2i_s, o2i_n, zdI_s, zdV_s, zdL_s, zcR_s, zcV_x, zcI_x, zcL_x, zcR_x, zrR_s, zth_s, nI_leI, nI_ltI, nI_eq, nI_eq0, nI_eqm1, b2i_eq0, t6, i10]
    rfl
  | false =>
    rw [he] at t6
    obtain ⟨gc1, gc2, gc3, gc4⟩ := hg he
    cases hi : hasIn s x with
    | false =>
      have e1 : goS s x = (0, s) := by unfold goS; rw [if_pos (Or.inr hi)]
      rw [e1]
      rw [(hasIn_len s x).mp hi] at t1
      refine ⟨t, ?_, g, Fr.refl _ _⟩
      unfold fB_taskTurn
      generalize fB_endTask = G1
      generalize fB_keepFor = G2
      generalize fB_takeNext = G3
      simp (disch := first | assumption | omega | exact b2i_01 _ | exact Or.inl rfl | exact Or.inr rfl) only [b0 o0, f0_0 o0, f0_1 o0, f0_2 o0, f0_3 o0, f0_4 o0, f0_5 o0, f0_6 o0, p0_6 o0, f0_7 o0, p0_7 o0, f0_8 o0, p0_8 o0, f0_9 o0, p0_9 o0, a0_1 o0, g0_2 o0, a0_2 o0, g0_3 o0, a0_3 o0, a0_4 o0, a0_5 o0, g0_1 o0 hN, g0_4 o0 hN, s0_4 o0 hN, g0_5 o0 hN, s0_5 o0 hN, b2 o2, f2_0 o2, p2_0 o2, f2_1 o2, f2_2 o2, f2_3 o2, p2_3 o2, f2_4 o2, p2_4 o2, f2_5 o2, p2_5 o2, f2_6 o2, p2_6 o2, f2_7 o2, p2_7 o2, f2_8 o2, p2_8 o2, g2_1 o2, a2_1 o2, g2_2 o2, a2_2 o2, rI_uI, rI_uJ, rI_uR, rI_wI, rI_wJ, rJ_uJ, rJ_uI, rJ_uR, rJ_wI, rJ_wJ, rR_uR, rR_uI, rR_uJ, rR_wI, rR_wJ, qI_wI, qI_wJ, qI_uI, qI_uJ, qI_uR, qJ_wJ, qJ_wI, qJ_uI, qJ_uJ, qJ_uR, Option.bind_some, zcV_s, zcI_s, zcL_s, zrI, zrV, zrL, nI_mul8, nI_mul16, nI_mul200, nI_1, eq_self, Nat.reduceEqDiff, and_true, true_and, and_false, false_and, and_self, ite_true, ite_false, ↓reduceIte, Nat.add_zero, if_true, if_false, b2i_t, b2i_f, o2i_s, o2i_n, zdI_s, zdV_s, zdL_s, zcR_s, zcV_x, zcI_x, zcL_x, zcR_x, zrR_s, zth_s, nI_leI, nI_ltI, nI_eq, nI_eq0, nI_eqm1, b2i_eq0, t6, t1, nI0]
    | true =>
      have hl0 : ¬ (ins s x).length = 0 := fun z => by rw [(hasIn_len s x).mpr z] at hi; cases hi
      have hop := fT_hasOpen_eq (n := n) g w hx
      cases hall : (ins s x).all (fun c => (s_held s c).isSome || s_over s c) with
      | false =>
        rw [hall] at hop
        have e1 : goS s x = pickT s x (pickS s x) := by
          unfold goS
          rw [if_neg (by simp [he, hi]), if_neg (by rw [hall]; simp)]
          rfl
        rw [e1]
        have hC0 : 0 < s_C s := by
          cases hl : ins s x with
          | nil => rw [hl] at hl0; exact absurd rfl hl0
          | cons c r => have := (mem_ins.mp (show c ∈ ins s x by rw [hl]; exact List.mem_cons_self)).1; omega
        obtain ⟨t7, h7, g7, F7⟩ := fB_takeNext_eq (n := n) g w hx hC0 (fun c hc => (gc1 c hc).1) (fun c hc => (gc1 c hc).2)
        refine ⟨t7, ?_, g7, F7⟩
        unfold fB_taskTurn
        generalize fB_endTask = G1
        generalize fB_keepFor = G2
        simp (disch := first | assumption | omega | exact b2i_01 _ | exact Or.inl rfl | exact Or.inr rfl) only [b0 o0, f0_0 o0, f0_1 o0, f0_2 o0, f0_3 o0, f0_4 o0, f0_5 o0, f0_6 o0, p0_6 o0, f0_7 o0, p0_7 o0, f0_8 o0, p0_8 o0, f0_9 o0, p0_9 o0, a0_1 o0, g0_2 o0, a0_2 o0, g0_3 o0, a0_3 o0, a0_4 o0, a0_5 o0, g0_1 o0 hN, g0_4 o0 hN, s0_4 o0 hN, g0_5 o0 hN, s0_5 o0 hN, b2 o2, f2_0 o2, p2_0 o2, f2_1 o2, f2_2 o2, f2_3 o2, p2_3 o2, f2_4 o2, p2_4 o2, f2_5 o2, p2_5 o2, f2_6 o2, p2_6 o2, f2_7 o2, p2_7 o2, f2_8 o2, p2_8 o2, g2_1 o2, a2_1 o2, g2_2 o2, a2_2 o2, rI_uI, rI_uJ, rI_uR, rI_wI, rI_wJ, rJ_uJ, rJ_uI, rJ_uR, rJ_wI, rJ_wJ, rR_uR, rR_uI, rR_uJ, rR_wI, rR_wJ, qI_wI, qI_wJ, qI_uI, qI_uJ, qI_uR, qJ_wJ, qJ_wI, qJ_uI, qJ_uJ, qJ_uR, Option.bind_some, zcV_s, zcI_s, zcL_s, zrI, zrV, zrL, nI_mul8, nI_mul16, nI_mul200, nI_1, eq_self, Nat.reduceEqDiff, and_true, true_and, and_false, false_and, and_self, ite_true, ite_false, ↓reduceIte, Nat.add_zero, if_true, if_false, b2i_t, b2i_f, o2i_s, o2i_n, zdI_s, zdV_s, zdL_s, zcR_s, zcV_x, zcI_x, zcL_x, zcR_x, zrR_s, zth_s, nI_leI, nI_ltI, nI_eq, nI_eq0, nI_eqm1, b2i_eq0, t6, t1, hl0, hop, i10, Bool.not_false, h7]
      | true =>
        rw [hall] at hop
        have hhf := fT_heldFor_eq (n := n) g w hx
        cases hh : heldS s x with
        | none =>
          rw [hh] at hhf
          have e1 : goS s x = (6, keepAll x (s_M s) (u_ended (giveS s x 2 0) (fu (s_ended (giveS s x 2 0)) x true))) := by
            unfold goS
            rw [if_neg (by simp [he, hi]), if_pos hall, hh]
          rw [e1]
          obtain ⟨t7, h7, g7, F7⟩ := fB_endTask_eq (n := n) g w hx gc2 gc3
          refine ⟨t7, ?_, g7, F7⟩
          unfold fB_taskTurn
          generalize fB_keepFor = G2
          generalize fB_takeNext = G3
          simp (disch := first | assumption | omega | exact b2i_01 _ | exact Or.inl rfl | exact Or.inr rfl) only [b0 o0, f0_0 o0, f0_1 o0, f0_2 o0, f0_3 o0, f0_4 o0, f0_5 o0, f0_6 o0, p0_6 o0, f0_7 o0, p0_7 o0, f0_8 o0, p0_8 o0, f0_9 o0, p0_9 o0, a0_1 o0, g0_2 o0, a0_2 o0, g0_3 o0, a0_3 o0, a0_4 o0, a0_5 o0, g0_1 o0 hN, g0_4 o0 hN, s0_4 o0 hN, g0_5 o0 hN, s0_5 o0 hN, b2 o2, f2_0 o2, p2_0 o2, f2_1 o2, f2_2 o2, f2_3 o2, p2_3 o2, f2_4 o2, p2_4 o2, f2_5 o2, p2_5 o2, f2_6 o2, p2_6 o2, f2_7 o2, p2_7 o2, f2_8 o2, p2_8 o2, g2_1 o2, a2_1 o2, g2_2 o2, a2_2 o2, rI_uI, rI_uJ, rI_uR, rI_wI, rI_wJ, rJ_uJ, rJ_uI, rJ_uR, rJ_wI, rJ_wJ, rR_uR, rR_uI, rR_uJ, rR_wI, rR_wJ, qI_wI, qI_wJ, qI_uI, qI_uJ, qI_uR, qJ_wJ, qJ_wI, qJ_uI, qJ_uJ, qJ_uR, Option.bind_some, zcV_s, zcI_s, zcL_s, zrI, zrV, zrL, nI_mul8, nI_mul16, nI_mul200, nI_1, eq_self, Nat.reduceEqDiff, and_true, true_and, and_false, false_and, and_self, ite_true, ite_false, ↓reduceIte, Nat.add_zero, if_true, if_false, b2i_t, b2i_f, o2i_s, o2i_n, zdI_s, zdV_s, zdL_s, zcR_s, zcV_x, zcI_x, zcL_x, zcR_x, zrR_s, zth_s, nI_leI, nI_ltI, nI_eq, nI_eq0, nI_eqm1, b2i_eq0, t6, t1, hl0, hop, Bool.not_true, hhf, h7]
          rfl
        | some m =>
          rw [hh] at hhf
          have hmem := gc4 m hh
          obtain ⟨hmr, hmp⟩ := List.mem_filter.mp hmem
          have hm := List.mem_range.mp hmr
          rw [Bool.and_eq_true, beq_iff_eq] at hmp
          have hA5 : (s_acks s).length < 520 := by
            have := List.length_pos_of_mem hmem
            omega
          have hm1 : ¬ nI m = -1 := by rw [nI_eqm1 (by omega)]; exact id
          have mk := fB_markAt_g (n := n) g w hm
          obtain ⟨t7, h7, g7, F7⟩ := fB_keepFor_eq (n := n) g w hx hm hmp.1 hA5
          rw [goS_k he hi hall hh]
          refine ⟨t7, ?_, ?_, F7⟩
          · unfold fB_taskTurn
            generalize fB_endTask = G1
            generalize fB_takeNext = G3
            simp (disch := first | assumption | omega | exact b2i_01 _ | exact Or.inl rfl | exact Or.inr rfl) only [b0 o0, f0_0 o0, f0_1 o0, f0_2 o0, f0_3 o0, f0_4 o0, f0_5 o0, f0_6 o0, p0_6 o0, f0_7 o0, p0_7 o0, f0_8 o0, p0_8 o0, f0_9 o0, p0_9 o0, a0_1 o0, g0_2 o0, a0_2 o0, g0_3 o0, a0_3 o0, a0_4 o0, a0_5 o0, g0_1 o0 hN, g0_4 o0 hN, s0_4 o0 hN, g0_5 o0 hN, s0_5 o0 hN, b2 o2, f2_0 o2, p2_0 o2, f2_1 o2, f2_2 o2, f2_3 o2, p2_3 o2, f2_4 o2, p2_4 o2, f2_5 o2, p2_5 o2, f2_6 o2, p2_6 o2, f2_7 o2, p2_7 o2, f2_8 o2, p2_8 o2, g2_1 o2, a2_1 o2, g2_2 o2, a2_2 o2, rI_uI, rI_uJ, rI_uR, rI_wI, rI_wJ, rJ_uJ, rJ_uI, rJ_uR, rJ_wI, rJ_wJ, rR_uR, rR_uI, rR_uJ, rR_wI, rR_wJ, qI_wI, qI_wJ, qI_uI, qI_uJ, qI_uR, qJ_wJ, qJ_wI, qJ_uI, qJ_uJ, qJ_uR, Option.bind_some, zcV_s, zcI_s, zcL_s, zrI, zrV, zrL, nI_mul8, nI_mul16, nI_mul200, nI_1, eq_self, Nat.reduceEqDiff, and_true, true_and, and_false, false_and, and_self, ite_true, ite_false, ↓reduceIte, Nat.add_zero, if_true, if_false, b2i_t, b2i_f, o2i_s, o2i_n, zdI_s, zdV_s, zdL_s, zcR_s, zcV_x, zcI_x, zcL_x, zcR_x, zrR_s, zth_s, nI_leI, nI_ltI, nI_eq, nI_eq0, nI_eqm1, b2i_eq0, t6, t1, hl0, hop, Bool.not_true, hhf, hm1, mk, h7]
            cases credit s x with
            | false => rfl
            | true => cases s_fails s m x <;> rfl
          · cases hcr : credit s x with
            | false => rw [hcr] at g7; exact g7
            | true =>
              rw [hcr] at g7
              cases hfl : s_fails s m x with
              | true => rw [hfl] at g7; exact g7
              | false => rw [hfl] at g7; exact g7
end PO
