/-! the class's restore -/
theorem back_acks (s : zSt) (m c : Nat) : backT (u_acks s []) m c = u_acks (backT s m c) [] := zSt_ext ((z_backT_N _ _ _).trans ((y_N_acks _ _).trans ((y_N_acks _ _).trans (z_backT_N _ _ _)).symm)) ((z_backT_C _ _ _).trans ((y_C_acks _ _).trans ((y_C_acks _ _).trans (z_backT_C _ _ _)).symm)) ((z_backT_fr _ _ _).trans ((y_fr_acks _ _).trans ((y_fr_acks _ _).trans (z_backT_fr _ _ _)).symm)) ((z_backT_to _ _ _).trans ((y_to_acks _ _).trans ((y_to_acks _ _).trans (z_backT_to _ _ _)).symm)) ((z_backT_tol _ _ _).trans ((y_tol_acks _ _).trans ((y_tol_acks _ _).trans (z_backT_tol _ _ _)).symm)) (by rw [y_sum_acks (backT s m c), z_backT_sum, z_backT_sum, y_sum_acks, y_kSum_acks]) (by rw [y_rows_acks (backT s m c), z_backT_rows, z_backT_rows, y_rows_acks, y_kRows_acks]) (by rw [y_ended_acks (backT s m c), z_backT_ended, z_backT_ended, y_ended_acks, y_kEnd_acks]) (by rw [y_latest_acks (backT s m c), z_backT_latest, z_backT_latest, y_latest_acks]) ((z_backT_q _ _ _).trans ((y_q_acks _ _).trans ((y_q_acks _ _).trans (z_backT_q _ _ _)).symm)) ((z_backT_log _ _ _).trans ((y_log_acks _ _).trans ((y_log_acks _ _).trans (z_backT_log _ _ _)).symm)) ((z_backT_fin _ _ _).trans ((y_fin_acks _ _).trans ((y_fin_acks _ _).trans (z_backT_fin _ _ _)).symm)) ((z_backT_stand _ _ _).trans ((y_stand_acks _ _).trans ((y_stand_acks _ _).trans (z_backT_stand _ _ _)).symm)) ((z_backT_over _ _ _).trans ((y_over_acks _ _).trans ((y_over_acks _ _).trans (z_backT_over _ _ _)).symm)) ((z_backT_held _ _ _).trans ((y_held_acks _ _).trans ((y_held_acks _ _).trans (z_backT_held _ _ _)).symm)) ((z_backT_M _ _ _).trans ((y_M_acks _ _).trans ((y_M_acks _ _).trans (z_backT_M _ _ _)).symm)) ((z_backT_cond _ _ _).trans ((y_cond_acks _ _).trans ((y_cond_acks _ _).trans (z_backT_cond _ _ _)).symm)) ((z_backT_pos _ _ _).trans ((y_pos_acks _ _).trans ((y_pos_acks _ _).trans (z_backT_pos _ _ _)).symm)) ((z_backT_came _ _ _).trans ((y_came_acks _ _).trans ((y_came_acks _ _).trans (z_backT_came _ _ _)).symm)) ((z_backT_kept _ _ _).trans ((y_kept_acks _ _).trans ((y_kept_acks _ _).trans (z_backT_kept _ _ _)).symm)) ((z_backT_kEnd _ _ _).trans ((y_kEnd_acks _ _).trans ((y_kEnd_acks _ _).trans (z_backT_kEnd _ _ _)).symm)) ((z_backT_kSum _ _ _).trans ((y_kSum_acks _ _).trans ((y_kSum_acks _ _).trans (z_backT_kSum _ _ _)).symm)) ((z_backT_kRows _ _ _).trans ((y_kRows_acks _ _).trans ((y_kRows_acks _ _).trans (z_backT_kRows _ _ _)).symm)) ((z_backT_fails _ _ _).trans ((y_fails_acks _ _).trans ((y_fails_acks _ _).trans (z_backT_fails _ _ _)).symm)) ((z_backT_taken _ _ _).trans ((y_taken_acks _ _).trans ((y_taken_acks _ _).trans (z_backT_taken _ _ _)).symm)) ((z_backT_acks _ _ _).trans ((su_acks _ _).trans (su_acks _ _).symm))
theorem three_t {a b : zSt} {H : Nat → Option Nat} {V : Nat → Bool} {S : Nat → Nat} (hr : s_N a = s_N b ∧ s_C a = s_C b ∧ s_fr a = s_fr b ∧ s_to a = s_to b ∧ s_tol a = s_tol b ∧ s_sum a = s_sum b ∧ s_rows a = s_rows b ∧ s_ended a = s_ended b ∧ s_latest a = s_latest b ∧ s_q a = s_q b ∧ s_log a = s_log b ∧ s_fin a = s_fin b ∧ s_M a = s_M b ∧ s_cond a = s_cond b ∧ s_pos a = s_pos b ∧ s_came a = s_came b ∧ s_kept a = s_kept b ∧ s_kEnd a = s_kEnd b ∧ s_kSum a = s_kSum b ∧ s_kRows a = s_kRows b ∧ s_fails a = s_fails b ∧ s_taken a = s_taken b ∧ s_acks a = s_acks b) (h1 : S = s_stand b) (h2 : H = s_held b) (h3 : V = s_over b) : u_over (u_held (u_stand a S) H) V = b := zSt_ext ((y_N_over _ _).trans ((y_N_held _ _).trans ((y_N_stand _ _).trans (hr.1)))) ((y_C_over _ _).trans ((y_C_held _ _).trans ((y_C_stand _ _).trans (hr.2.1)))) ((y_fr_over _ _).trans ((y_fr_held _ _).trans ((y_fr_stand _ _).trans (hr.2.2.1)))) ((y_to_over _ _).trans ((y_to_held _ _).trans ((y_to_stand _ _).trans (hr.2.2.2.1)))) ((y_tol_over _ _).trans ((y_tol_held _ _).trans ((y_tol_stand _ _).trans (hr.2.2.2.2.1)))) ((y_sum_over _ _).trans ((y_sum_held _ _).trans ((y_sum_stand _ _).trans (hr.2.2.2.2.2.1)))) ((y_rows_over _ _).trans ((y_rows_held _ _).trans ((y_rows_stand _ _).trans (hr.2.2.2.2.2.2.1)))) ((y_ended_over _ _).trans ((y_ended_held _ _).trans ((y_ended_stand _ _).trans (hr.2.2.2.2.2.2.2.1)))) ((y_latest_over _ _).trans ((y_latest_held _ _).trans ((y_latest_stand _ _).trans (hr.2.2.2.2.2.2.2.2.1)))) ((y_q_over _ _).trans ((y_q_held _ _).trans ((y_q_stand _ _).trans (hr.2.2.2.2.2.2.2.2.2.1)))) ((y_log_over _ _).trans ((y_log_held _ _).trans ((y_log_stand _ _).trans (hr.2.2.2.2.2.2.2.2.2.2.1)))) ((y_fin_over _ _).trans ((y_fin_held _ _).trans ((y_fin_stand _ _).trans (hr.2.2.2.2.2.2.2.2.2.2.2.1)))) ((y_stand_over _ _).trans ((y_stand_held _ _).trans ((su_stand _ _).trans h1))) ((su_over _ _).trans h3) ((y_held_over _ _).trans ((su_held _ _).trans h2)) ((y_M_over _ _).trans ((y_M_held _ _).trans ((y_M_stand _ _).trans (hr.2.2.2.2.2.2.2.2.2.2.2.2.1)))) ((y_cond_over _ _).trans ((y_cond_held _ _).trans ((y_cond_stand _ _).trans (hr.2.2.2.2.2.2.2.2.2.2.2.2.2.1)))) ((y_pos_over _ _).trans ((y_pos_held _ _).trans ((y_pos_stand _ _).trans (hr.2.2.2.2.2.2.2.2.2.2.2.2.2.2.1)))) ((y_came_over _ _).trans ((y_came_held _ _).trans ((y_came_stand _ _).trans (hr.2.2.2.2.2.2.2.2.2.2.2.2.2.2.2.1)))) ((y_kept_over _ _).trans ((y_kept_held _ _).trans ((y_kept_stand _ _).trans (hr.2.2.2.2.2.2.2.2.2.2.2.2.2.2.2.2.1)))) ((y_kEnd_over _ _).trans ((y_kEnd_held _ _).trans ((y_kEnd_stand _ _).trans (hr.2.2.2.2.2.2.2.2.2.2.2.2.2.2.2.2.2.1)))) ((y_kSum_over _ _).trans ((y_kSum_held _ _).trans ((y_kSum_stand _ _).trans (hr.2.2.2.2.2.2.2.2.2.2.2.2.2.2.2.2.2.2.1)))) ((y_kRows_over _ _).trans ((y_kRows_held _ _).trans ((y_kRows_stand _ _).trans (hr.2.2.2.2.2.2.2.2.2.2.2.2.2.2.2.2.2.2.2.1)))) ((y_fails_over _ _).trans ((y_fails_held _ _).trans ((y_fails_stand _ _).trans (hr.2.2.2.2.2.2.2.2.2.2.2.2.2.2.2.2.2.2.2.2.1)))) ((y_taken_over _ _).trans ((y_taken_held _ _).trans ((y_taken_stand _ _).trans (hr.2.2.2.2.2.2.2.2.2.2.2.2.2.2.2.2.2.2.2.2.2.1)))) ((y_acks_over _ _).trans ((y_acks_held _ _).trans ((y_acks_stand _ _).trans (hr.2.2.2.2.2.2.2.2.2.2.2.2.2.2.2.2.2.2.2.2.2.2))))
theorem backC_t (s : zSt) (m c : Nat) (hf : s_fr s c = none) (hq0 : s_q s c = []) : u_over (u_held (u_stand (backC s m c) (fu (s_stand (backC s m c)) c (s_pos s m c))) (fu (s_held (backC s m c)) c none)) (fu (s_over (backC s m c)) c (endF s c)) = backC s m (c + 1) := by
  have hq : s_q (backC s m c) = s_q (backC s m (c + 1)) := by
    rw [← bc_q]
    have e1 : s_q (backC s m c) c = [] := by rw [z_backC_q]; show (if c < c then [] else s_q s c) = []; rw [if_neg (by omega)]; exact hq0
    rw [← e1, fu_id]
  exact three_t ⟨(z_backC_N s m c).trans (z_backC_N s m (c + 1)).symm, (z_backC_C s m c).trans (z_backC_C s m (c + 1)).symm, (z_backC_fr s m c).trans (z_backC_fr s m (c + 1)).symm, (z_backC_to s m c).trans (z_backC_to s m (c + 1)).symm, (z_backC_tol s m c).trans (z_backC_tol s m (c + 1)).symm, (z_backC_sum s m c).trans (z_backC_sum s m (c + 1)).symm, (z_backC_rows s m c).trans (z_backC_rows s m (c + 1)).symm, (z_backC_ended s m c).trans (z_backC_ended s m (c + 1)).symm, (z_backC_latest s m c).trans (z_backC_latest s m (c + 1)).symm, hq, (z_backC_log s m c).trans (z_backC_log s m (c + 1)).symm, (z_backC_fin s m c).trans (z_backC_fin s m (c + 1)).symm, (z_backC_M s m c).trans (z_backC_M s m (c + 1)).symm, (z_backC_cond s m c).trans (z_backC_cond s m (c + 1)).symm, (z_backC_pos s m c).trans (z_backC_pos s m (c + 1)).symm, (z_backC_came s m c).trans (z_backC_came s m (c + 1)).symm, (z_backC_kept s m c).trans (z_backC_kept s m (c + 1)).symm, (z_backC_kEnd s m c).trans (z_backC_kEnd s m (c + 1)).symm, (z_backC_kSum s m c).trans (z_backC_kSum s m (c + 1)).symm, (z_backC_kRows s m c).trans (z_backC_kRows s m (c + 1)).symm, (z_backC_fails s m c).trans (z_backC_fails s m (c + 1)).symm, (z_backC_taken s m c).trans (z_backC_taken s m (c + 1)).symm, (z_backC_acks s m c).trans (z_backC_acks s m (c + 1)).symm⟩ (bc_stand s m c hf) (bc_held s m c) (bc_over s m c)
theorem bT_ins (s : zSt) (m c : Nat) : ins (backT s m c) = ins s := by funext x; unfold ins; rw [z_backT_C, z_backT_to]
theorem bT_outs (s : zSt) (m c : Nat) : outs (backT s m c) = outs s := by funext x; unfold outs; rw [z_backT_C, z_backT_fr]
theorem bT_begun (s : zSt) (m c : Nat) : begunS (backT s m c) = begunS s := by unfold begunS; rw [z_backT_M, z_backT_cond]
theorem bT_count (s : zSt) (m c : Nat) : countS (backT s m c) = countS s := by funext x; unfold countS; rw [z_backT_N, z_backT_taken]
theorem bT_due (s : zSt) (m c : Nat) : dueS (backT s m c) = dueS s := by funext x; unfold dueS; rw [z_backT_M, z_backT_cond, z_backT_came]
theorem bT_look (s : zSt) (m c x : Nat) : look (backT s m c) x = if x < c then 0 else look s x := by
  unfold look
  rw [z_backT_latest, bT_ins]
  show (match (if x < c then none else s_latest s x) with | none => 0 | some c => _) = _
  by_cases q : x < c
  · rw [if_pos q, if_pos q]
  · rw [if_neg q, if_neg q]
    rfl
theorem bC_due (s : zSt) (m c : Nat) : dueS (backC s m c) = dueS s := by funext x; unfold dueS; rw [z_backC_M, z_backC_cond, z_backC_came]
section PO
variable {e : pE} {t t' : pS} {s : zSt} {n : Nat}
theorem cB_iff {Mf : Nat → Nat} {due : Nat → List Nat} (m c : Nat) : ClsG e t (backT s m (c + 1)) Mf due ↔ (cE e (s_N (backT s m c)) (s_C (backT s m c)) (s_fr (backT s m c)) (s_M (backT s m c)) ∧ cR e t (s_N (backT s m c)) (s_C (backT s m c)) (s_fr (backT s m c)) (s_M (backT s m c)) (ins (backT s m c)) (outs (backT s m c)) ∧ cB t (s_C (backT s m c)) (s_M (backT s m c)) (begunS (backT s m c)) (s_tol (backT s m c)) ∧ cAo t (s_acks (backT s m c)) ∧ cT t (s_N (backT s m c)) (ins (backT s m c)) (outs (backT s m c)) (look (backT s m (c + 1))) (s_sum (backT s m (c + 1))) (s_rows (backT s m (c + 1))) (s_ended (backT s m (c + 1))) ∧ cC t (s_C (backT s m c)) (s_fr (backT s m c)) (s_to (backT s m c)) (s_held (backT s m c)) (s_over (backT s m c)) ∧ cS t (s_C (backT s m c)) (s_fr (backT s m c)) (s_log (backT s m c)) (s_fin (backT s m c)) (s_stand (backT s m c)) Mf (s_pos (backT s m c)) due ∧ cL t (s_C (backT s m c)) (s_fr (backT s m c)) (s_q (backT s m c)) ∧ cM t (s_M (backT s m c)) (s_N (backT s m c)) (s_kept (backT s m c)) (s_fails (backT s m c)) (s_taken (backT s m c)) (s_kSum (backT s m c)) (s_kRows (backT s m c)) (s_kEnd (backT s m c)) (countS (backT s m c)) (s_cond (backT s m c))) := by
  unfold ClsG
  simp only [z_backT_N, z_backT_C, z_backT_fr, z_backT_to, z_backT_tol, z_backT_q, z_backT_log, z_backT_fin, z_backT_stand, z_backT_over, z_backT_held, z_backT_M, z_backT_cond, z_backT_pos, z_backT_came, z_backT_kept, z_backT_kEnd, z_backT_kSum, z_backT_kRows, z_backT_fails, z_backT_taken, z_backT_acks, bT_ins, bT_outs, bT_begun, bT_count]
set_option maxHeartbeats 2000000 in
theorem fT_goBack_eq {Mf : Nat → Nat} {due : Nat → List Nat} (w : Wf s) {m c : Nat} (g : ClsG e t (backT s m c) Mf due) (hm : m < s_M s) (hc : c < s_N s) : ∃ t', fT_goBack (pv e t) n (pL e 2 c 0) (some (pL e 5 m 0)) = some (.inl none, pv e t', n) ∧ ClsG e t' (backT s m (c + 1)) Mf due ∧ Fr PC t t' := by
  have hN8 := w.N8
  have hcN : c < s_N (backT s m c) := by rw [z_backT_N]; exact hc
  have hmM : m < s_M (backT s m c) := by rw [z_backT_M]; exact hm
  have o2 := g.o2 hcN
  have o5 := g.o5 hmM
  have hN : s_N (backT s m c) < 2 ^ 31 := by rw [z_backT_N]; omega
  have hcN' := hcN
  obtain ⟨m0, m1, m2, m3, m4, m5, m6, m7, m8⟩ := g.M m hmM
  rw [z_backT_kSum] at m4
  rw [z_backT_kRows] at m5
  rw [z_backT_kEnd] at m6
  have x4 : rJ t 5 m 4 c = s_kSum s m c := m4 c hcN
  have x5 : rI t 5 m 5 c = s_kRows s m c := m5 c hcN
  have x6 : rI t 5 m 6 c = b2i (s_kEnd s m c) := m6 c hcN
  obtain ⟨a0, a1, a2, a3, a4, a5, a6⟩ := g.T c hcN
  refine ⟨wI (wI (wI (wJ t 2 c 6 (s_kSum s m c)) 2 c 7 (s_kRows s m c)) 2 c 8 (b2i (s_kEnd s m c))) 2 c 5 0, ?_, ?_, (Fr.wI (po 2 c) (Fr.wI (po 2 c) (Fr.wI (po 2 c) (Fr.wJ (po 2 c) (Fr.refl _ _))))).c (by decide)⟩
  · unfold fT_goBack
    simp (disch := first | assumption | omega | exact b2i_01 _ | exact Or.inl rfl | exact Or.inr rfl) only [b2 o2, f2_0 o2, p2_0 o2, f2_1 o2, f2_2 o2, f2_3 o2, p2_3 o2, f2_4 o2, p2_4 o2, f2_5 o2, p2_5 o2, f2_6 o2, p2_6 o2, f2_7 o2, p2_7 o2, f2_8 o2, p2_8 o2, g2_1 o2, a2_1 o2, g2_2 o2, a2_2 o2, b5 o5, f5_0 o5, p5_0 o5, f5_1 o5, f5_2 o5, f5_3 o5, f5_4 o5, f5_5 o5, f5_6 o5, f5_7 o5, p5_7 o5, f5_8 o5, p5_8 o5, a5_1 o5, a5_2 o5, a5_3 o5, a5_4 o5, a5_5 o5, a5_6 o5, g5_1 o5 hN, s5_1 o5 hN, g5_2 o5 hN, s5_2 o5 hN, g5_3 o5 hN, s5_3 o5 hN, g5_4 o5 hN, s5_4 o5 hN, g5_5 o5 hN, s5_5 o5 hN, g5_6 o5 hN, s5_6 o5 hN, rI_uI, rI_uJ, rI_uR, rI_wI, rI_wJ, rJ_uJ, rJ_uI, rJ_uR, rJ_wI, rJ_wJ, rR_uR, rR_uI, rR_uJ, rR_wI, rR_wJ, qI_wI, qI_wJ, qI_uI, qI_uJ, qI_uR, qJ_wJ, qJ_wI, qJ_uI, qJ_uJ, qJ_uR, Option.bind_some, zcV_s, zcI_s, zcL_s, zrI, zrV, zrL, nI_mul8, nI_mul16, nI_mul200, nI_1, eq_self, Nat.reduceEqDiff, and_true, true_and, and_false, false_and, and_self, ite_true, ite_false, ↓reduceIte, Nat.add_zero, if_true, if_false, b2i_t, b2i_f, o2i_s, o2i_n, zdI_s, zdV_s, zdL_s, zcR_s, zcV_x, zcI_x, zcL_x, zcR_x, zrR_s, zth_s, nI_leI, nI_ltI, nI_eq, nI_eq0, nI_eqm1, b2i_eq0, a0, x4, x5, x6]
  · refine g.utask (x := c) (Fr.wI (po 2 c) (Fr.wI (po 2 c) (Fr.wI (po 2 c) (Fr.wJ (po 2 c) (Fr.refl _ _))))) rfl (fun e t Mf due => cB_iff m c) (fun j hj => ?_) ?_
    · rw [bT_look, bT_look, z_backT_sum, z_backT_sum, z_backT_rows, z_backT_rows, z_backT_ended, z_backT_ended]
      have hjj : (j < c + 1) ↔ (j < c) := by omega
      simp only [hjj]
      exact ⟨trivial, trivial, trivial, trivial⟩
    · rw [bT_look, z_backT_sum, z_backT_rows, z_backT_ended]
      simp only [show c < c + 1 by omega, if_true]
      unfold cTo
      simp only [qI_wI, qI_wJ, qJ_wI, qJ_wJ, true_and, Nat.reduceEqDiff, ↓reduceIte]
      exact ⟨a0, a1, a2, rfl, trivial⟩
set_option maxHeartbeats 2000000 in
theorem fB_restore_54_eq {Mf : Nat → Nat} {due : Nat → List Nat} (w : Wf s) {m : Nat} (hm : m < s_M s) : ∀ (d c : Nat) (t : pS) (f : Nat), c + d = s_N s → d < f → ClsG e t (backT s m c) Mf due → ∃ t', fB_restore_54 f (pv e t) n (pL e 0 0 0) (nI m) (some (pL e 5 m 0)) (nI c) = fB_restore_84 zF (pv e t') n (pL e 0 0 0) (nI m) 0 0 ∧ ClsG e t' (backT s m (s_N s)) Mf due ∧ Fr PC t t' := by
  have hN8 := w.N8
  intro d
  induction d with
  | zero =>
    intro c t f hc hf g
    obtain ⟨f, rfl⟩ : ∃ g, f = g + 1 := ⟨f - 1, by omega⟩
    obtain rfl : c = s_N s := by omega
    have o0 := g.o0
    rw [z_backT_N] at o0
    refine ⟨t, ?_, g, Fr.refl _ _⟩
    unfold fB_restore_54
    generalize fB_restore_84 zF = R
    rw [f0_0 o0, Option.bind_some, a0_1 o0, Option.bind_some, if_pos (Int32.le_refl _)]
  | succ d ih =>
    intro c t f hc hf g
    obtain ⟨f, rfl⟩ : ∃ g, f = g + 1 := ⟨f - 1, by omega⟩
    have q : ¬ s_N s ≤ c := by omega
    have o0 := g.o0
    rw [z_backT_N] at o0
    have hN : s_N s < 2 ^ 31 := by omega
    have hcN : c < s_N (backT s m c) := by rw [z_backT_N]; omega
    have o2 := g.o2 hcN
    have r1 := g.r1 hcN
    obtain ⟨t1, h1, g1, F1⟩ := fT_goBack_eq (n := n) w g hm (by omega)
    obtain ⟨t3, h3, g3, F3⟩ := ih (c + 1) t1 f (by omega) (by omega) g1
    refine ⟨t3, ?_, g3, F1.trans F3⟩
    rw [← h3]
    generalize hR : fB_restore_54 f = R
    unfold fB_restore_54
    rw [hR]
    generalize fB_restore_84 zF = R2
    have hcl : c < s_N s := by omega
    rw [f0_0 o0, Option.bind_some, a0_1 o0, Option.bind_some, if_neg (by rw [nI_leI (by omega) (by omega)]; exact q), Option.bind_some, g0_1 o0 hN hcl, Option.bind_some, r1, b2 o2, Option.bind_some, h1, zcV_s, nI_1]
theorem fB_hasEnded_g {Mf : Nat → Nat} {due : Nat → List Nat} (g : ClsG e t s Mf due) (w : Wf s) {x : Nat} (hx : x < s_N s) : fB_hasEnded (pv e t) n (pL e 0 0 0) (nI x) = some (.inl (some (.int (b2i (s_ended s x)))), pv e t, n) := by
  have hN8 := w.N8
  have hN : s_N s < 2 ^ 31 := by omega
  have o0 := g.o0
  have o2 := g.o2 hx
  have r1 := g.r1 hx
  have a8 := (g.T x hx).2.2.2.2.2.2
  unfold fB_hasEnded fB_hasEnded_29
  rw [if_neg (nI_nn (by omega)), f0_0 o0, Option.bind_some, a0_1 o0, Option.bind_some, if_neg (by rw [nI_leI (by omega) (by omega)]; omega), Option.bind_some, g0_1 o0 hN hx, Option.bind_some, r1, f2_8 o2, Option.bind_some, a8]
  cases s_ended s x <;> rfl
theorem fB_hasEnded_m {V : zV} {a0 : Nat} : fB_hasEnded V n a0 (-1) = some (.inl (some (.int 0)), V, n) := rfl
end PO
