/-! the class's calls that change the state: send, finish, giveUp, fails, again, turn, play, told -/
section PO
variable {e : pE} {t t' : pS} {s : zSt} {n : Nat}
theorem fB_told_b (g : Cls e t s) {x : Int32} (hx : x < 0 ∨ 3 < x) : CO (fB_told (pv e t) n (pL e 0 0 0) x) e t n (.inr "java/lang/IllegalArgumentException") s := by
  refine ⟨t, ?_, g, Fr.refl _ _⟩
  unfold fB_told zsw
  rw [if_pos (by
    rcases hx with hx | hx
    · exact Or.inl hx
    · refine Or.inr ?_
      by_cases q : x < 0
      · exact absurd (Int32.lt_trans hx q) (by decide)
      · obtain ⟨j, hj, rfl⟩ := nI_of q
        rw [nI_clamp (by omega)]
        rw [show (3 : Int32) = nI 3 from rfl, nI_ltI (by decide) hj] at hx
        omega)]
  rfl
theorem fB_told_0 (g : Cls e t s) : CO (fB_told (pv e t) n (pL e 0 0 0) 0) e t n (.inl (some (.int (nI (s_C s))))) s := by
  refine ⟨t, ?_, g, Fr.refl _ _⟩
  have o0 := ClsG.o0 g
  unfold fB_told
  show (zgI (pv e t) (some (pL e 0 0 0)) [5] 6).bind _ = _
  rw [f0_6 o0, Option.bind_some, (ClsG.B g).1]
  rfl
theorem fB_told_1 (g : Cls e t s) : CO (fB_told (pv e t) n (pL e 0 0 0) 1) e t n (.inl (some (.int (nI (s_M s))))) s := by
  refine ⟨t, ?_, g, Fr.refl _ _⟩
  have o0 := ClsG.o0 g
  unfold fB_told
  show (zgI (pv e t) (some (pL e 0 0 0)) [5] 7).bind _ = _
  rw [f0_7 o0, Option.bind_some, (ClsG.B g).2.1]
  rfl
theorem fB_told_2 (g : Cls e t s) : CO (fB_told (pv e t) n (pL e 0 0 0) 2) e t n (.inl (some (.int (nI (s_acks s).length)))) s := by
  refine ⟨t, ?_, g, Fr.refl _ _⟩
  have o0 := ClsG.o0 g
  have o1 := ClsG.o1 g
  obtain ⟨fi, f1, f2, f3, f4, f5⟩ := ClsG.A g
  unfold fB_told
  show (zgR (pv e t) (some (pL e 0 0 0)) [5] 3).bind _ = _
  rw [f0_3 o0, Option.bind_some, f1_3 o1, Option.bind_some, f3]
  rfl
theorem fB_told_3 (g : Cls e t s) : CO (fB_told (pv e t) n (pL e 0 0 0) 3) e t n (.inl (some (.int (nI (begunS s))))) s := by
  refine ⟨t, ?_, g, Fr.refl _ _⟩
  have o0 := ClsG.o0 g
  unfold fB_told
  show (zgI (pv e t) (some (pL e 0 0 0)) [5] 8).bind _ = _
  rw [f0_8 o0, Option.bind_some, (ClsG.B g).2.2.1]
  rfl
theorem fB_send_b (g : Cls e t s) {x : Int32} (v : Int64) (hx : bad x (s_C s)) : CO (fB_send (pv e t) n (pL e 0 0 0) x v) e t n (.inr "java/lang/IndexOutOfBoundsException") s := by
  refine ⟨t, ?_, g, Fr.refl _ _⟩
  unfold fB_send
  rw [b0 (ClsG.o0 g), Option.bind_some, fB_sourceAt_b g hx]
  rfl
theorem fB_send_n (g : Cls e t s) (w : Wf s) {c : Nat} (v : Int64) (hc : c < s_C s) (hb : s_fr s c ≠ none ∨ s_fin s c = true ∨ (s_log s c).length = 200) : CO (fB_send (pv e t) n (pL e 0 0 0) (nI c) v) e t n (.inr "java/lang/IllegalStateException") s := by
  refine ⟨t, ?_, g, Fr.refl _ _⟩
  unfold fB_send
  rw [b0 (ClsG.o0 g), Option.bind_some]
  cases hf : s_fr s c with
  | some k => rw [fB_sourceAt_l g w hc hf]; rfl
  | none =>
    have o3 := ClsG.o3 g hc hf
    obtain ⟨h1, h2, h3, h4, h5, h6, h7, hr⟩ := ClsG.S g c hc hf
    rw [fB_sourceAt_s g w hc hf, zcR_s, f3_12 o3, Option.bind_some, h7]
    cases hn : s_fin s c with
    | true => rfl
    | false =>
      have hl : (s_log s c).length = 200 := by
        rcases hb with hb | hb | hb
        · exact absurd hf hb
        · rw [hn] at hb; cases hb
        · exact hb
      rw [b2i_f, if_pos rfl, f3_9 o3, Option.bind_some, h2, hl]
      rfl
set_option maxHeartbeats 2000000 in
theorem fB_send_g (g : Cls e t s) (w : Wf s) {c : Nat} (v : Int64) (hc : c < s_C s) (hf : s_fr s c = none) (hn : s_fin s c = false) (hl : (s_log s c).length ≠ 200) : CO (fB_send (pv e t) n (pL e 0 0 0) (nI c) v) e t n (.inl (some (.int (nI ((s_log s c).length + 1))))) (sendS s c v) := by
  have hN : s_N s < 2 ^ 31 := by have := w.N8; omega
  have hlg := w.log c
  have o0 := ClsG.o0 g
  have o3 := ClsG.o3 g hc hf
  have g1 : Cls e (wI t 0 0 9 1) (u_tol s true) := ClsG.utol g true
  obtain ⟨t2, h2, S2, F2, F23⟩ := fS_addRow_eq (n := n) o3 (ClsG.S g1 c hc hf) (by show (s_log s c).length < 200; omega) v
  have g2 : Cls e t2 (sendS s c v) := ClsG.ulog g1 F2 F23 S2
  have h9 := (ClsG.S g c hc hf).2.1
  have h12 := (ClsG.S g c hc hf).2.2.2.2.2.2.1
  rw [hn] at h12
  have h9' : qI t2 3 c 9 = nI ((s_log s c).length + 1) := by
    have := S2.2.1
    rw [y_log_tol, List.length_append] at this
    exact this
  have q1 : (s_log s c).length < 200 := by omega
  refine ⟨t2, ?_, g2, ((fr_p3 (k := 0) (i := 0)).c (by decide)).trans (F2.c (by decide))⟩
  unfold fB_send
  simp (disch := first | assumption | omega | exact b2i_01 _ | exact Or.inl rfl | exact Or.inr rfl) only [b0 o0, f0_0 o0, f0_1 o0, f0_2 o0, f0_3 o0, f0_4 o0, f0_5 o0, f0_6 o0, p0_6 o0, f0_7 o0, p0_7 o0, f0_8 o0, p0_8 o0, f0_9 o0, p0_9 o0, a0_1 o0, g0_2 o0, a0_2 o0, g0_3 o0, a0_3 o0, a0_4 o0, a0_5 o0, g0_1 o0 hN, g0_4 o0 hN, s0_4 o0 hN, g0_5 o0 hN, s0_5 o0 hN, b3 o3, bc3 o3, f3_0 o3, p3_0 o3, f3_1 o3, p3_1 o3, f3_2 o3, p3_2 o3, f3_3 o3, p3_3 o3, f3_4 o3, f3_5 o3, f3_6 o3, f3_7 o3, f3_8 o3, p3_8 o3, f3_9 o3, p3_9 o3, f3_10 o3, p3_10 o3, f3_11 o3, p3_11 o3, f3_12 o3, p3_12 o3, fc3_0 o3, pc3_0 o3, fc3_1 o3, pc3_1 o3, fc3_2 o3, pc3_2 o3, fc3_3 o3, pc3_3 o3, g3_1 o3, a3_1 o3, s3_1 o3, g3_2 o3, a3_2 o3, s3_2 o3, g3_3 o3, a3_3 o3, s3_3 o3, g3_4 o3, z3_4 o3, a3_4 o3, s3_4 o3, rI_uI, rI_uJ, rI_uR, rI_wI, rI_wJ, rJ_uJ, rJ_uI, rJ_uR, rJ_wI, rJ_wJ, rR_uR, rR_uI, rR_uJ, rR_wI, rR_wJ, qI_wI, qI_wJ, qI_uI, qI_uJ, qI_uR, qJ_wJ, qJ_wI, qJ_uI, qJ_uJ, qJ_uR, Option.bind_some, zcV_s, zcI_s, zcL_s, zrI, zrV, zrL, nI_mul8, nI_mul16, nI_mul200, nI_1, eq_self, Nat.reduceEqDiff, and_true, true_and, and_false, false_and, and_self, ite_true, ite_false, ↓reduceIte, Nat.add_zero, if_true, if_false, b2i_t, b2i_f, o2i_s, o2i_n, zdI_s, zdV_s, zdL_s, zcR_s, zcV_x, zcI_x, zcL_x, zcR_x, zrR_s, zth_s, nI_leI, nI_ltI, nI_eq, nI_eq0, nI_eqm1, b2i_eq0, fB_sourceAt_s g w hc hf, h12, h9, show (200 : Int32) = nI 200 from rfl, q1, h2, h9']
theorem fB_finish_b (g : Cls e t s) {x : Int32} (hx : bad x (s_C s)) : CO (fB_finish (pv e t) n (pL e 0 0 0) x) e t n (.inr "java/lang/IndexOutOfBoundsException") s := by
  refine ⟨t, ?_, g, Fr.refl _ _⟩
  unfold fB_finish
  rw [b0 (ClsG.o0 g), Option.bind_some, fB_sourceAt_b g hx]
  rfl
theorem fB_finish_n (g : Cls e t s) (w : Wf s) {c : Nat} (hc : c < s_C s) (hb : s_fr s c ≠ none ∨ s_fin s c = true) : CO (fB_finish (pv e t) n (pL e 0 0 0) (nI c)) e t n (.inr "java/lang/IllegalStateException") s := by
  refine ⟨t, ?_, g, Fr.refl _ _⟩
  unfold fB_finish
  rw [b0 (ClsG.o0 g), Option.bind_some]
  cases hf : s_fr s c with
  | some k => rw [fB_sourceAt_l g w hc hf]; rfl
  | none =>
    have o3 := ClsG.o3 g hc hf
    obtain ⟨h1, h2, h3, h4, h5, h6, h7, hr⟩ := ClsG.S g c hc hf
    have hn : s_fin s c = true := hb.resolve_left (fun z => z hf)
    rw [fB_sourceAt_s g w hc hf, zcR_s, f3_12 o3, Option.bind_some, h7, hn]
    rfl
theorem cSo.w12 {c : Nat} {log : List Int64} {fin : Bool} {stand M : Nat} {pos : Nat → Nat} {due : List Nat} (h : cSo t c log fin stand M pos due) : cSo (wI t 3 c 12 1) c log true stand M pos due := by
  obtain ⟨h1, h2, h3, h4, h5, h6, h7, h8, h9, h10, h11, h12, h13, h14, h15⟩ := h
  unfold cSo
  rw [rI_wI, rJ_wI, qJ_wI]
  simp only [qI_wI, true_and, Nat.reduceEqDiff, ↓reduceIte]
  exact ⟨h1, h2, h3, h4, h5, h6, rfl, h8, h9, h10, h11, h12, h13, h14, h15⟩
theorem Cls.finish (g : Cls e t s) {c : Nat} (hc : c < s_C s) (hf : s_fr s c = none) : Cls e (wI (wI t 0 0 9 1) 3 c 12 1) (finishS s c) := by
  have g1 := ClsG.utol g true
  have S1 := ClsG.S g1 c (by rw [y_C_tol]; exact hc) (by rw [y_fr_tol]; exact hf)
  have g2 := ClsG.ufin g1 (c := c) (b := true) fr_p3 (fun f hf => by rw [qI_wI, if_neg (by omega)]) S1.w12
  rw [y_fin_tol] at g2
  unfold Cls finishS
  rw [y_M_fin, y_M_tol, d_dueS_fin, d_dueS_tol]
  exact g2
set_option maxHeartbeats 2000000 in
theorem fB_finish_g (g : Cls e t s) (w : Wf s) {c : Nat} (hc : c < s_C s) (hf : s_fr s c = none) (hn : s_fin s c = false) : CO (fB_finish (pv e t) n (pL e 0 0 0) (nI c)) e t n (.inl (some (.int (nI (s_log s c).length)))) (finishS s c) := by
  have hN : s_N s < 2 ^ 31 := by have := w.N8; omega
  have o0 := ClsG.o0 g
  have o3 := ClsG.o3 g hc hf
  have h9' := (ClsG.S g c hc hf).2.1
  have h12' := (ClsG.S g c hc hf).2.2.2.2.2.2.1
  rw [hn] at h12'
  refine ⟨_, ?_, g.finish hc hf, ((fr_p3 (k := 0) (i := 0)).c (by decide)).trans ((fr_p3 (k := 3) (i := c)).c (by decide))⟩
  unfold fB_finish
  simp (disch := first | assumption | omega | exact b2i_01 _ | exact Or.inl rfl | exact Or.inr rfl) only [b0 o0, f0_0 o0, f0_1 o0, f0_2 o0, f0_3 o0, f0_4 o0, f0_5 o0, f0_6 o0, p0_6 o0, f0_7 o0, p0_7 o0, f0_8 o0, p0_8 o0, f0_9 o0, p0_9 o0, a0_1 o0, g0_2 o0, a0_2 o0, g0_3 o0, a0_3 o0, a0_4 o0, a0_5 o0, g0_1 o0 hN, g0_4 o0 hN, s0_4 o0 hN, g0_5 o0 hN, s0_5 o0 hN, b3 o3, bc3 o3, f3_0 o3, p3_0 o3, f3_1 o3, p3_1 o3, f3_2 o3, p3_2 o3, f3_3 o3, p3_3 o3, f3_4 o3, f3_5 o3, f3_6 o3, f3_7 o3, f3_8 o3, p3_8 o3, f3_9 o3, p3_9 o3, f3_10 o3, p3_10 o3, f3_11 o3, p3_11 o3, f3_12 o3, p3_12 o3, fc3_0 o3, pc3_0 o3, fc3_1 o3, pc3_1 o3, fc3_2 o3, pc3_2 o3, fc3_3 o3, pc3_3 o3, g3_1 o3, a3_1 o3, s3_1 o3, g3_2 o3, a3_2 o3, s3_2 o3, g3_3 o3, a3_3 o3, s3_3 o3, g3_4 o3, z3_4 o3, a3_4 o3, s3_4 o3, rI_uI, rI_uJ, rI_uR, rI_wI, rI_wJ, rJ_uJ, rJ_uI, rJ_uR, rJ_wI, rJ_wJ, rR_uR, rR_uI, rR_uJ, rR_wI, rR_wJ, qI_wI, qI_wJ, qI_uI, qI_uJ, qI_uR, qJ_wJ, qJ_wI, qJ_uI, qJ_uJ, qJ_uR, Option.bind_some, zcV_s, zcI_s, zcL_s, zrI, zrV, zrL, nI_mul8, nI_mul16, nI_mul200, nI_1, eq_self, Nat.reduceEqDiff, and_true, true_and, and_false, false_and, and_self, ite_true, ite_false, ↓reduceIte, Nat.add_zero, if_true, if_false, b2i_t, b2i_f, o2i_s, o2i_n, zdI_s, zdV_s, zdL_s, zcR_s, zcV_x, zcI_x, zcL_x, zcR_x, zrR_s, zth_s, nI_leI, nI_ltI, nI_eq, nI_eq0, nI_eqm1, b2i_eq0, fB_sourceAt_s g w hc hf, h12', h9']
theorem fB_giveUp_b (g : Cls e t s) {x : Int32} (hx : bad x (s_M s)) : CO (fB_giveUp (pv e t) n (pL e 0 0 0) x) e t n (.inr "java/lang/IndexOutOfBoundsException") s := by
  refine ⟨t, ?_, g, Fr.refl _ _⟩
  unfold fB_giveUp
  rw [b0 (ClsG.o0 g), Option.bind_some, fB_begunMarkAt_b g hx]
  rfl
theorem fB_giveUp_n (g : Cls e t s) (w : Wf s) {m : Nat} (hm : m < s_M s) (h0 : s_cond s m ≠ 0) : CO (fB_giveUp (pv e t) n (pL e 0 0 0) (nI m)) e t n (.inr "java/lang/IllegalStateException") s := by
  refine ⟨t, ?_, g, Fr.refl _ _⟩
  unfold fB_giveUp
  rw [b0 (ClsG.o0 g), Option.bind_some, fB_begunMarkAt_n g w hm h0]
  rfl
theorem fB_giveUp_g (g : Cls e t s) (w : Wf s) {m : Nat} (hm : m < s_M s) (h0 : s_cond s m = 0) : CO (fB_giveUp (pv e t) n (pL e 0 0 0) (nI m)) e t n (.inl (some (.int (nI (countS s m))))) (closeS s m 2) := by
  obtain ⟨t1, h1, g1, F1⟩ := fB_stopMark_eq (n := n) (m := m) (how := 2) g w hm h0 (by omega) (by omega)
  have h1' : fB_stopMark (pv e t) n (pL e 0 0 0) (some (pL e 5 m 0)) 2 = some (.inl none, pv e t1, n) := h1
  have hm1 : m < s_M (closeS s m 2) := by rw [z_closeS_M]; exact hm
  have m7 := (ClsG.M g1 m hm1).2.2.2.2.2.2.2.1
  have e1 : countS (closeS s m 2) m = countS s m := by unfold countS; rw [z_closeS_N, z_closeS_taken]
  refine ⟨t1, ?_, g1, F1⟩
  unfold fB_giveUp
  rw [b0 (ClsG.o0 g), Option.bind_some, fB_begunMarkAt_g g w hm h0, zcR_s, b0 (ClsG.o0 g), Option.bind_some, h1', zcV_s, f5_7 (ClsG.o5 g1 hm1), Option.bind_some, m7, e1]
  rfl
theorem fB_fails_b1 (g : Cls e t s) (w : Wf s) {x : Int32} (y : Int32) (hx : bad x (s_N s)) : CO (fB_fails (pv e t) n (pL e 0 0 0) x y) e t n (.inr "java/lang/IndexOutOfBoundsException") s := by
  refine ⟨t, ?_, g, Fr.refl _ _⟩
  unfold fB_fails
  rw [b0 (ClsG.o0 g), Option.bind_some, fB_taskAt_b g w hx]
  rfl
theorem fB_fails_b2 (g : Cls e t s) (w : Wf s) {x : Nat} {y : Int32} (hx : x < s_N s) (hy : bad y (s_M s)) : CO (fB_fails (pv e t) n (pL e 0 0 0) (nI x) y) e t n (.inr "java/lang/IndexOutOfBoundsException") s := by
  refine ⟨t, ?_, g, Fr.refl _ _⟩
  unfold fB_fails
  rw [b0 (ClsG.o0 g), Option.bind_some, fB_taskAt_g g w hx, zcR_s, b0 (ClsG.o0 g), Option.bind_some, fB_begunMarkAt_b g hy]
  rfl
theorem fB_fails_n (g : Cls e t s) (w : Wf s) {x m : Nat} (hx : x < s_N s) (hm : m < s_M s) (hb : s_cond s m ≠ 0 ∨ s_kept s m x = true ∨ s_fails s m x = true) : CO (fB_fails (pv e t) n (pL e 0 0 0) (nI x) (nI m)) e t n (.inr "java/lang/IllegalStateException") s := by
  refine ⟨t, ?_, g, Fr.refl _ _⟩
  have hN : s_N s < 2 ^ 31 := by have := w.N8; omega
  have o5 := ClsG.o5 g hm
  have k1 : rI t 5 m 1 x = b2i (s_kept s m x) := (ClsG.M g m hm).2.1 x hx
  have k2 : rI t 5 m 2 x = b2i (s_fails s m x) := (ClsG.M g m hm).2.2.1 x hx
  unfold fB_fails
  rw [b0 (ClsG.o0 g), Option.bind_some, fB_taskAt_g g w hx, zcR_s, b0 (ClsG.o0 g), Option.bind_some]
  by_cases q : s_cond s m = 0
  · rw [fB_begunMarkAt_g g w hm q, zcR_s, f5_1 o5, Option.bind_some, g5_1 o5 hN hx, Option.bind_some, k1]
    cases hk : s_kept s m x with
    | true => rfl
    | false =>
      rw [b2i_f, if_pos rfl, f5_2 o5, Option.bind_some, g5_2 o5 hN hx, Option.bind_some, k2]
      cases hf : s_fails s m x with
      | true => rfl
      | false => simp [q, hk, hf] at hb
  · rw [fB_begunMarkAt_n g w hm q]; rfl
theorem fB_fails_g (g : Cls e t s) (w : Wf s) {x m : Nat} (hx : x < s_N s) (hm : m < s_M s) (h0 : s_cond s m = 0) (hk : s_kept s m x = false) (hf : s_fails s m x = false) : CO (fB_fails (pv e t) n (pL e 0 0 0) (nI x) (nI m)) e t n (.inl none) (failsS s m x) := by
  have hN : s_N s < 2 ^ 31 := by have := w.N8; omega
  have o5 := ClsG.o5 g hm
  have k1 : rI t 5 m 1 x = b2i (s_kept s m x) := (ClsG.M g m hm).2.1 x hx
  have k2 : rI t 5 m 2 x = b2i (s_fails s m x) := (ClsG.M g m hm).2.2.1 x hx
  have g1 : Cls e (uI t 5 m 2 (fu (rI t 5 m 2) x 1)) (failsS s m x) := by
    refine ClsG.umark g (m := m) (Fr.uI (po 5 m) (Fr.refl _ _)) (fun e t Mf due => by unfold ClsG failsS; simp only [y_N_fails, y_C_fails, y_fr_fails, y_to_fails, y_tol_fails, y_sum_fails, y_rows_fails, y_ended_fails, y_latest_fails, y_q_fails, y_log_fails, y_fin_fails, y_stand_fails, y_over_fails, y_held_fails, y_M_fails, y_cond_fails, y_pos_fails, y_came_fails, y_kept_fails, y_kEnd_fails, y_kSum_fails, y_kRows_fails, y_taken_fails, y_acks_fails, su_fails, d_ins_fails, d_outs_fails, d_hasIn_fails, d_dueS_fails, d_look_fails, d_begunS_fails, d_countS_fails, d_credit_fails, d_barS_fails, d_nextS_fails, d_heldS_fails, d_NKs_fails]) (fun j hj => ?_) ?_
    · unfold failsS
      simp only [y_N_fails, y_C_fails, y_fr_fails, y_to_fails, y_tol_fails, y_sum_fails, y_rows_fails, y_ended_fails, y_latest_fails, y_q_fails, y_log_fails, y_fin_fails, y_stand_fails, y_over_fails, y_held_fails, y_M_fails, y_cond_fails, y_pos_fails, y_came_fails, y_kept_fails, y_kEnd_fails, y_kSum_fails, y_kRows_fails, y_taken_fails, y_acks_fails, su_fails, d_ins_fails, d_outs_fails, d_hasIn_fails, d_dueS_fails, d_look_fails, d_begunS_fails, d_countS_fails, d_credit_fails, d_barS_fails, d_nextS_fails, d_heldS_fails, d_NKs_fails]
      exact ⟨(by trivial), fu2_ne _ _ _ hj, (by trivial), (by trivial), (by trivial), (by trivial), (by trivial)⟩
    · unfold failsS
      simp only [y_N_fails, y_C_fails, y_fr_fails, y_to_fails, y_tol_fails, y_sum_fails, y_rows_fails, y_ended_fails, y_latest_fails, y_q_fails, y_log_fails, y_fin_fails, y_stand_fails, y_over_fails, y_held_fails, y_M_fails, y_cond_fails, y_pos_fails, y_came_fails, y_kept_fails, y_kEnd_fails, y_kSum_fails, y_kRows_fails, y_taken_fails, y_acks_fails, su_fails, d_ins_fails, d_outs_fails, d_hasIn_fails, d_dueS_fails, d_look_fails, d_begunS_fails, d_countS_fails, d_credit_fails, d_barS_fails, d_nextS_fails, d_heldS_fails, d_NKs_fails, fu2_self]
      obtain ⟨m0, m1, m2, m3, m4, m5, m6, m7, m8⟩ := ClsG.M g m hm
      unfold cMo
      simp only [rI_uI, rJ_uI, qI_uI, true_and, and_true, Nat.reduceEqDiff, and_false, ↓reduceIte, and_self]
      exact ⟨m0, m1, hI_fu b2i m2 rfl, m3, m4, m5, m6, m7, m8⟩
  refine ⟨_, ?_, g1, (Fr.uI (po 5 m) (Fr.refl _ _)).c (by decide)⟩
  unfold fB_fails
  rw [b0 (ClsG.o0 g), Option.bind_some, fB_taskAt_g g w hx, zcR_s, b0 (ClsG.o0 g), Option.bind_some, fB_begunMarkAt_g g w hm h0, zcR_s, f5_1 o5, Option.bind_some, g5_1 o5 hN hx, Option.bind_some, k1, hk, b2i_f, if_pos rfl, f5_2 o5, Option.bind_some, g5_2 o5 hN hx, Option.bind_some, k2, hf, b2i_f, if_pos rfl, Option.bind_some, s5_2 o5 hN hx (Or.inr rfl), Option.bind_some, upd_fu]
  rfl
theorem fB_again_b1 (g : Cls e t s) (w : Wf s) (x : Int32) {y : Int32} (hy : bad y (s_N s)) : CO (fB_again (pv e t) n (pL e 0 0 0) x y) e t n (.inr "java/lang/IndexOutOfBoundsException") s := by
  refine ⟨t, ?_, g, Fr.refl _ _⟩
  unfold fB_again
  rw [b0 (ClsG.o0 g), Option.bind_some, fB_taskAt_b g w hy]
  rfl
theorem fB_again_b2 (g : Cls e t s) (w : Wf s) {y : Nat} {x : Int32} (hy : y < s_N s) (hx : bad x (s_M s)) : CO (fB_again (pv e t) n (pL e 0 0 0) x (nI y)) e t n (.inr "java/lang/IndexOutOfBoundsException") s := by
  refine ⟨t, ?_, g, Fr.refl _ _⟩
  unfold fB_again
  rw [b0 (ClsG.o0 g), Option.bind_some, fB_taskAt_g g w hy, zcR_s, b0 (ClsG.o0 g), Option.bind_some, fB_begunMarkAt_b g hx]
  rfl
theorem fB_again_n (g : Cls e t s) (w : Wf s) {m x : Nat} (hx : x < s_N s) (hm : m < s_M s) (hb : s_cond s m ≠ 0 ∨ s_kept s m x = false ∨ 200 ≤ (s_acks s).length) : CO (fB_again (pv e t) n (pL e 0 0 0) (nI m) (nI x)) e t n (.inr "java/lang/IllegalStateException") s := by
  refine ⟨t, ?_, g, Fr.refl _ _⟩
  have hN : s_N s < 2 ^ 31 := by have := w.N8; omega
  have hA := w.ackn
  have o0 := ClsG.o0 g
  have o1 := ClsG.o1 g
  have o5 := ClsG.o5 g hm
  obtain ⟨fi, f1, f2, f3, f4, f5⟩ := ClsG.A g
  have k1 : rI t 5 m 1 x = b2i (s_kept s m x) := (ClsG.M g m hm).2.1 x hx
  unfold fB_again
  rw [b0 o0, Option.bind_some, fB_taskAt_g g w hx, zcR_s, b0 o0, Option.bind_some]
  by_cases q : s_cond s m = 0
  · rw [fB_begunMarkAt_g g w hm q, zcR_s, f5_1 o5, Option.bind_some, g5_1 o5 hN hx, Option.bind_some, k1]
    cases hk : s_kept s m x with
    | false => rfl
    | true =>
      have hl : 200 ≤ (s_acks s).length := by
        rcases hb with hb | hb | hb
        · exact absurd q hb
        · rw [hk] at hb; cases hb
        · exact hb
      rw [if_neg (by decide), f0_3 o0, Option.bind_some, f1_3 o1, Option.bind_some, f3, if_neg (by rw [show (200 : Int32) = nI 200 from rfl, nI_ltI (by omega) (by decide)]; omega)]
      rfl
  · rw [fB_begunMarkAt_n g w hm q]; rfl
theorem fB_again_g (g : Cls e t s) (w : Wf s) {m x : Nat} (hx : x < s_N s) (hm : m < s_M s) (h0 : s_cond s m = 0) (hk : s_kept s m x = true) (hl : (s_acks s).length < 200) : CO (fB_again (pv e t) n (pL e 0 0 0) (nI m) (nI x)) e t n (.inl (some (.int (nI ((s_acks s).length + 1))))) (againS s m x) := by
  have hN : s_N s < 2 ^ 31 := by have := w.N8; omega
  have o0 := ClsG.o0 g
  have o1 := ClsG.o1 g
  have o5 := ClsG.o5 g hm
  obtain ⟨fi, f1, f2, f3, f4, f5⟩ := ClsG.A g
  have k1 : rI t 5 m 1 x = b2i (s_kept s m x) := (ClsG.M g m hm).2.1 x hx
  obtain ⟨t2, h2, A2, F2⟩ := fK_add_eq (n := n) o1 (ClsG.A g) (by omega) m x
  have g2 : Cls e t2 (againS s m x) := ClsG.uacks g F2 A2
  have f3' : qI t2 1 0 3 = nI ((s_acks s).length + 1) := by
    obtain ⟨_, _, _, z, _⟩ := A2
    rw [List.length_append] at z
    exact z
  refine ⟨t2, ?_, g2, F2.c (by decide)⟩
  unfold fB_again
  rw [b0 o0, Option.bind_some, fB_taskAt_g g w hx, zcR_s, b0 o0, Option.bind_some, fB_begunMarkAt_g g w hm h0, zcR_s, f5_1 o5, Option.bind_some, g5_1 o5 hN hx, Option.bind_some, k1, hk, if_neg (by decide), f0_3 o0, Option.bind_some, f1_3 o1, Option.bind_some, f3, if_pos (by rw [show (200 : Int32) = nI 200 from rfl, nI_ltI (by omega) (by decide)]; omega), Option.bind_some, b1 o1, Option.bind_some, h2, zcV_s, f0_3 o0, Option.bind_some, f1_3 o1, Option.bind_some, f3']
  rfl
theorem fB_turn_b (g : Cls e t s) (w : Wf s) {x : Int32} (h1 : ¬ x = -1) (hx : bad x (s_N s)) : CO (fB_turn (pv e t) n (pL e 0 0 0) x) e t n (.inr "java/lang/IndexOutOfBoundsException") s := by
  refine ⟨t, ?_, g, Fr.refl _ _⟩
  unfold fB_turn
  rw [if_neg h1, b0 (ClsG.o0 g), Option.bind_some, fB_taskAt_b g w hx]
  rfl
theorem fB_turn_k (g : Cls e t s) (w : Wf s) : CO (fB_turn (pv e t) n (pL e 0 0 0) (-1)) e t n (.inl (some (.int (nI (keeperS s).1)))) (keeperS s).2 := by
  obtain ⟨t2, h2, g2, F2⟩ := fB_keeperTurn_eq (n := n) g w
  refine ⟨t2, ?_, g2, F2⟩
  unfold fB_turn
  rw [if_pos rfl, b0 (ClsG.o0 g), Option.bind_some, h2, zcI_s]
  rfl
theorem fB_turn_g (g : Cls e t s) (w : Wf s) {x : Nat} (hx : x < s_N s) (hg : s_ended s x = false → GC s x) : CO (fB_turn (pv e t) n (pL e 0 0 0) (nI x)) e t n (.inl (some (.int (nI (goS s x).1)))) (goS s x).2 := by
  have hN8 := w.N8
  obtain ⟨t2, h2, g2, F2⟩ := fB_taskTurn_eq (n := n) g w hx hg
  refine ⟨t2, ?_, g2, F2⟩
  unfold fB_turn
  rw [if_neg (by rw [nI_eqm1 (by omega)]; exact id), b0 (ClsG.o0 g), Option.bind_some, fB_taskAt_g g w hx, zcR_s, b0 (ClsG.o0 g), Option.bind_some, h2, zcI_s]
  rfl
theorem fB_play_94_eq (K : zV → Nat → Nat → Int32 → Int64 → Int32 → Int32 → Option zR) (V : zV) (a0 : Nat) (x3 : Int32) (x : Int64) (a c : Nat) {r : Nat} (hr : r ≤ 8) : fB_play_94 K V n a0 x3 x (nI a) (nI c) (nI r) = K V n a0 x3 x (nI (a + if r = 1 then 1 else 0)) (nI (c + 1)) := by
  have e1 : (nI r = (1 : Int32)) ↔ r = 1 := by rw [show (1 : Int32) = nI 1 from rfl]; exact nI_eq (by omega) (by decide)
  unfold fB_play_94 fB_play_105
  by_cases q : r = 1
  · rw [if_pos (e1.mpr q), if_pos q, nI_1, nI_1]
  · rw [if_neg (fun z => q (e1.mp z)), if_neg q, nI_1]
    rfl
theorem fB_play_31_u (f : Nat) (V : zV) (a0 : Nat) (x3 : Int32) (x : Int64) (x6 x7 : Int32) (y : Int64) (hy : (6364136223846793005 : Int64) * x + (1442695040888963407 : Int64) = y) : fB_play_31 (f + 1) V n a0 x3 x x6 x7 = if x3 ≤ x7 then zrI x6 V n else (zgR V (some a0) [5] 0).bind fun t1 => (zalen V t1 3).bind fun t2 => if (t2 + (1 : Int32)).toInt64 = 0 then none else (zgR V (some a0) [5] 0).bind fun t3 => (zalen V t3 3).bind fun t4 => if t4 ≤ ((y.toUInt64 >>> ((33 : Int32).toInt64.toUInt64 &&& Int64.toUInt64 63)).toInt64 - (y.toUInt64 >>> ((33 : Int32).toInt64.toUInt64 &&& Int64.toUInt64 63)).toInt64 / (t2 + (1 : Int32)).toInt64 * (t2 + (1 : Int32)).toInt64).toInt32 then (z_obj V (some a0) [5]).bind fun o => zcI (fB_keeperTurn V n o.1) fun t5 V n => fB_play_94 (fB_play_31 f) V n a0 x3 y x6 x7 t5 else (zgR V (some a0) [5] 0).bind fun t6 => (zaR V t6 3 ((y.toUInt64 >>> ((33 : Int32).toInt64.toUInt64 &&& Int64.toUInt64 63)).toInt64 - (y.toUInt64 >>> ((33 : Int32).toInt64.toUInt64 &&& Int64.toUInt64 63)).toInt64 / (t2 + (1 : Int32)).toInt64 * (t2 + (1 : Int32)).toInt64).toInt32).bind fun t7 => (z_obj V (some a0) [5]).bind fun o => zcI (fB_taskTurn V n o.1 t7) fun t8 V n => fB_play_94 (fB_play_31 f) V n a0 x3 y x6 x7 t8 := by
  subst hy
  rfl
theorem bplay_k (g : Cls e t s) (w : Wf s) {T a c f : Nat} (hT : T ≤ 2000) (q : ¬ T ≤ c) (hc : c ≤ 2000) {x y : Int64} (hy : (6364136223846793005 : Int64) * x + (1442695040888963407 : Int64) = y) (q2 : plK y % (s_N s + 1) = s_N s) {t1 : pS} {r : Nat} (hr : r ≤ 8) (h1 : fB_keeperTurn (pv e t) n (pL e 0 0 0) = some (.inl (some (.int (nI r))), pv e t1, n)) : fB_play_31 (f + 1) (pv e t) n (pL e 0 0 0) (nI T) x (nI a) (nI c) = fB_play_31 f (pv e t1) n (pL e 0 0 0) (nI T) y (nI (a + if r = 1 then 1 else 0)) (nI (c + 1)) := by
  have hN8 := w.N8
  have o0 := ClsG.o0 g
  obtain ⟨e0, e1⟩ := play_who hN8 y
  rw [fB_play_31_u f _ _ _ _ _ _ y hy]
  generalize fB_play_31 f = R
  rw [if_neg (by rw [nI_leI (by omega) (by omega)]; exact q), f0_0 o0, Option.bind_some, a0_1 o0, Option.bind_some, if_neg e0, Option.bind_some, a0_1 o0, Option.bind_some, e1, q2, if_pos (Int32.le_refl _), b0 o0, Option.bind_some, h1, zcI_s, fB_play_94_eq R _ _ _ _ a c hr]
theorem bplay_g (g : Cls e t s) (w : Wf s) {T a c f k : Nat} (hT : T ≤ 2000) (q : ¬ T ≤ c) (hc : c ≤ 2000) {x y : Int64} (hy : (6364136223846793005 : Int64) * x + (1442695040888963407 : Int64) = y) (hk : plK y % (s_N s + 1) = k) (hkN : k < s_N s) {t1 : pS} {r : Nat} (hr : r ≤ 8) (h1 : fB_taskTurn (pv e t) n (pL e 0 0 0) (some (pL e 2 k 0)) = some (.inl (some (.int (nI r))), pv e t1, n)) : fB_play_31 (f + 1) (pv e t) n (pL e 0 0 0) (nI T) x (nI a) (nI c) = fB_play_31 f (pv e t1) n (pL e 0 0 0) (nI T) y (nI (a + if r = 1 then 1 else 0)) (nI (c + 1)) := by
  have hN8 := w.N8
  have hN : s_N s < 2 ^ 31 := by omega
  have o0 := ClsG.o0 g
  have r1 := ClsG.r1 g hkN
  obtain ⟨e0, e1⟩ := play_who hN8 y
  rw [fB_play_31_u f _ _ _ _ _ _ y hy]
  generalize fB_play_31 f = R
  rw [if_neg (by rw [nI_leI (by omega) (by omega)]; exact q), f0_0 o0, Option.bind_some, a0_1 o0, Option.bind_some, if_neg e0, Option.bind_some, a0_1 o0, Option.bind_some, e1, hk, if_neg (by rw [nI_leI (by omega) (by omega)]; omega), Option.bind_some, g0_1 o0 hN hkN, Option.bind_some, r1, b0 o0, Option.bind_some, h1, zcI_s, fB_play_94_eq R _ _ _ _ a c hr]
set_option maxHeartbeats 2000000 in
theorem fB_play_31_eq (P : zSt → Prop) (hP : ∀ s, P s → Wf s ∧ ∀ x, x < s_N s → s_ended s x = false → GC s x) (hk : ∀ s, P s → P (keeperS s).2) (hg : ∀ s x, P s → x < s_N s → P (goS s x).2) {T : Nat} (hT : T ≤ 2000) : ∀ (d c : Nat) (t : pS) (s : zSt) (x : Int64) (a : Nat) (f : Nat), c + d = T → d < f → Cls e t s → P s → ∃ t', fB_play_31 f (pv e t) n (pL e 0 0 0) (nI T) x (nI a) (nI c) = some (.inl (some (.int (nI (playS d s x a).1))), pv e t', n) ∧ Cls e t' (playS d s x a).2 ∧ Fr PC t t' := by
  intro d
  induction d with
  | zero =>
    intro c t s x a f hc hf g hp
    obtain ⟨f, rfl⟩ : ∃ g, f = g + 1 := ⟨f - 1, by omega⟩
    have q : T ≤ c := by omega
    rw [playS_0]
    rw [fB_play_31_u f _ _ _ _ _ _ _ rfl]
    generalize fB_play_31 f = R
    rw [if_pos (by rw [nI_leI (by omega) (by omega)]; exact q)]
    exact ⟨t, rfl, g, Fr.refl _ _⟩
  | succ d ih =>
    intro c t s x a f hc hf g hp
    obtain ⟨f, rfl⟩ : ∃ g, f = g + 1 := ⟨f - 1, by omega⟩
    have q : ¬ T ≤ c := by omega
    obtain ⟨w, gd⟩ := hP s hp
    have hN1 := w.N1
    obtain ⟨y, hy⟩ : ∃ y, plX x = y := ⟨_, rfl⟩
    have hy2 : (6364136223846793005 : Int64) * x + (1442695040888963407 : Int64) = y := hy
    rw [playS_s, hy]
    have hkl := Nat.mod_lt (plK y) (show 0 < s_N s + 1 by omega)
    by_cases q2 : plK y % (s_N s + 1) = s_N s
    · obtain ⟨t1, h1, g1, F1⟩ := fB_keeperTurn_eq (n := n) g w
      have e3 : stepS s y = keeperS s := if_pos q2
      rw [e3, bplay_k g w hT q (by omega) hy2 q2 (keeperS_le s) h1]
      obtain ⟨t3, h3, g3, F3⟩ := ih (c + 1) t1 (keeperS s).2 y (a + if (keeperS s).1 = 1 then 1 else 0) f (by omega) (by omega) g1 (hk s hp)
      exact ⟨t3, h3, g3, F1.trans F3⟩
    · obtain ⟨k, hk2⟩ : ∃ k, plK y % (s_N s + 1) = k := ⟨_, rfl⟩
      rw [hk2] at q2 hkl
      have hx : k < s_N s := by omega
      have e3 : stepS s y = goS s k := by unfold stepS; rw [hk2, if_neg q2]
      obtain ⟨t2, h2, g2, F2⟩ := fB_taskTurn_eq (n := n) g w hx (gd k hx)
      rw [e3, bplay_g g w hT q (by omega) hy2 hk2 hx (goS_le s k) h2]
      obtain ⟨t3, h3, g3, F3⟩ := ih (c + 1) t2 (goS s k).2 y (a + if (goS s k).1 = 1 then 1 else 0) f (by omega) (by omega) g2 (hg s k hp hx)
      exact ⟨t3, h3, g3, F2.trans F3⟩
theorem fB_play_b (g : Cls e t s) (v : Int64) {x : Int32} (hx : x < 1 ∨ 2000 < x) : CO (fB_play (pv e t) n (pL e 0 0 0) v x) e t n (.inr "java/lang/IllegalArgumentException") s := by
  refine ⟨t, ?_, g, Fr.refl _ _⟩
  unfold fB_play
  generalize fB_play_31 zF = R
  by_cases q : x < 1
  · rw [if_pos q]; rfl
  · rw [if_neg q, if_neg (Int32.not_le.mpr (hx.resolve_left q))]; rfl
theorem fB_play_g (g : Cls e t s) (P : zSt → Prop) (hP : ∀ s, P s → Wf s ∧ ∀ x, x < s_N s → s_ended s x = false → GC s x) (hk : ∀ s, P s → P (keeperS s).2) (hg : ∀ s x, P s → x < s_N s → P (goS s x).2) (hp : P s) (v : Int64) {T : Nat} (h1 : 1 ≤ T) (hT : T ≤ 2000) : CO (fB_play (pv e t) n (pL e 0 0 0) v (nI T)) e t n (.inl (some (.int (nI (playS T s v 0).1)))) (playS T s v 0).2 := by
  obtain ⟨t2, h2, g2, F2⟩ := fB_play_31_eq (n := n) P hP hk hg hT T 0 t s v 0 zF (Nat.zero_add _) (zF_big (by omega)) g hp
  have h2' : fB_play_31 zF (pv e t) n (pL e 0 0 0) (nI T) v 0 0 = _ := h2
  refine ⟨t2, ?_, g2, F2⟩
  rw [← h2']
  unfold fB_play
  generalize fB_play_31 zF = R
  have q1 : ¬ nI T < (1 : Int32) := by rw [show (1 : Int32) = nI 1 from rfl, nI_ltI (by omega) (by decide)]; omega
  have q2 : nI T ≤ (2000 : Int32) := by rw [show (2000 : Int32) = nI 2000 from rfl, nI_leI (by omega) (by decide)]; omega
  rw [if_neg q1, if_pos q2]
end PO
