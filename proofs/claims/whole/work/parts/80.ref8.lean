/-! the reference's take: barriers and ends -/
section PM
variable {e : pE} {t : pS} {s : zSt} {n : Nat}
theorem y_bar (g : Nat → Option Nat) (c : Nat) : barS (u_latest s g) c = barS s c := by
  unfold barS
  simp only [y_N_latest, y_C_latest, y_fr_latest, y_to_latest, y_tol_latest, y_sum_latest, y_rows_latest, y_ended_latest, y_q_latest, y_log_latest, y_fin_latest, y_stand_latest, y_over_latest, y_held_latest, y_M_latest, y_cond_latest, y_pos_latest, y_came_latest, y_kept_latest, y_kEnd_latest, y_kSum_latest, y_kRows_latest, y_fails_latest, y_taken_latest, y_acks_latest, su_latest]
theorem bar_of {c : Nat} (hf : s_fr s c = none) (hn : nextS s c = some 1) : ∃ m, barS s c = some m := by
  cases hb : barS s c with
  | some m => exact ⟨m, rfl⟩
  | none =>
    rw [nextS_src hf, hb] at hn
    split at hn
    · cases hn
    · rw [if_neg (by simp)] at hn
      split at hn
      · cases hn
      · split at hn <;> cases hn
theorem head_of {c k j : Nat} (hf : s_fr s c = some k) (hn : nextS s c = some j) : ∃ z l, s_q s c = z :: l ∧ z.1 = j := by
  rw [nextS_line hf] at hn
  cases hl : s_q s c with
  | nil => rw [hl] at hn; split at hn <;> cases hn
  | cons z l =>
    rw [hl] at hn
    split at hn
    · cases hn
    · cases hn; exact ⟨z, l, rfl, rfl⟩
theorem takeS_1s {x c m : Nat} (hn : nextS s c = some 1) (hf : s_fr s c = none) (hm : barS s c = some m) : takeS s x c = (2, u_held (u_came (u_latest s (fu (s_latest s) x (some c))) (fu2 (s_came s) m c true)) (fu (s_held s) c (some m))) := by
  unfold takeS
  rw [hn]
  show (if s_fr s c = none then (match barS s c with | some m => (2, u_held (u_came (u_latest s (fu (s_latest s) x (some c))) (fu2 (s_came (u_latest s (fu (s_latest s) x (some c)))) m c true)) (fu (s_held (u_latest s (fu (s_latest s) x (some c)))) c (some m))) | none => (2, u_latest s (fu (s_latest s) x (some c)))) else (2, u_held (u_q (u_latest s (fu (s_latest s) x (some c))) (fu (s_q (u_latest s (fu (s_latest s) x (some c)))) c (s_q (u_latest s (fu (s_latest s) x (some c))) c).tail)) (fu (s_held (u_latest s (fu (s_latest s) x (some c)))) c (some (hdV (s_q s c)).toInt32.toNatClampNeg)))) = _
  rw [if_pos hf, hm, y_came_latest, y_held_latest]
theorem takeS_1l {x c k m : Nat} (hn : nextS s c = some 1) (hf : s_fr s c = some k) (hm : (hdV (s_q s c)).toInt32.toNatClampNeg = m) : takeS s x c = (2, u_held (u_q (u_latest s (fu (s_latest s) x (some c))) (fu (s_q s) c (s_q s c).tail)) (fu (s_held s) c (some m))) := by
  unfold takeS
  rw [hn]
  show (if s_fr s c = none then (match barS s c with | some m => (2, u_held (u_came (u_latest s (fu (s_latest s) x (some c))) (fu2 (s_came (u_latest s (fu (s_latest s) x (some c)))) m c true)) (fu (s_held (u_latest s (fu (s_latest s) x (some c)))) c (some m))) | none => (2, u_latest s (fu (s_latest s) x (some c)))) else (2, u_held (u_q (u_latest s (fu (s_latest s) x (some c))) (fu (s_q (u_latest s (fu (s_latest s) x (some c)))) c (s_q (u_latest s (fu (s_latest s) x (some c))) c).tail)) (fu (s_held (u_latest s (fu (s_latest s) x (some c)))) c (some (hdV (s_q s c)).toInt32.toNatClampNeg)))) = _
  rw [if_neg (by rw [hf]; intro q; cases q), hm, y_q_latest, y_held_latest]
theorem takeS_2s {x c : Nat} (hn : nextS s c = some 2) (hf : s_fr s c = none) : takeS s x c = (3, u_over (u_latest s (fu (s_latest s) x (some c))) (fu (s_over s) c true)) := by
  unfold takeS
  rw [hn]
  show (3, u_over (if s_fr s c = none then u_latest s (fu (s_latest s) x (some c)) else u_q (u_latest s (fu (s_latest s) x (some c))) (fu (s_q (u_latest s (fu (s_latest s) x (some c)))) c (s_q (u_latest s (fu (s_latest s) x (some c))) c).tail)) (fu (s_over (if s_fr s c = none then u_latest s (fu (s_latest s) x (some c)) else u_q (u_latest s (fu (s_latest s) x (some c))) (fu (s_q (u_latest s (fu (s_latest s) x (some c)))) c (s_q (u_latest s (fu (s_latest s) x (some c))) c).tail))) c true)) = _
  rw [if_pos hf, y_over_latest]
theorem takeS_2l {x c k : Nat} (hn : nextS s c = some 2) (hf : s_fr s c = some k) : takeS s x c = (3, u_over (u_q (u_latest s (fu (s_latest s) x (some c))) (fu (s_q s) c (s_q s c).tail)) (fu (s_over s) c true)) := by
  unfold takeS
  rw [hn]
  show (3, u_over (if s_fr s c = none then u_latest s (fu (s_latest s) x (some c)) else u_q (u_latest s (fu (s_latest s) x (some c))) (fu (s_q (u_latest s (fu (s_latest s) x (some c)))) c (s_q (u_latest s (fu (s_latest s) x (some c))) c).tail)) (fu (s_over (if s_fr s c = none then u_latest s (fu (s_latest s) x (some c)) else u_q (u_latest s (fu (s_latest s) x (some c))) (fu (s_q (u_latest s (fu (s_latest s) x (some c)))) c (s_q (u_latest s (fu (s_latest s) x (some c))) c).tail))) c true)) = _
  rw [if_neg (by rw [hf]; intro q; cases q), y_over_q, y_over_latest, y_q_latest]
set_option maxHeartbeats 2000000 in
theorem fR_take_1 (h : pRf e) (M : Mod t s) (w : Wf s) {x c : Nat} (hx : x < 8) (hc : c < s_C s) (hn : nextS s c = some 1) : ∃ t', fR_take (pv e t) n (pL e 6 0 0) (nI x) (nI c) = some (.inl (some (.int 2)), pv e t', n) ∧ Mod t' (takeS s x c).2 ∧ (takeS s x c).1 = 2 ∧ Fr6 t t' := by
  have hN1 := w.N1; have hN8 := w.N8; have hC := w.C; have hM := w.M; have hA := w.ackn
  have M1 := M.v_latest (hI_fu o2i (k := x) (v := nI c) (a := some c) M.c_r4 rfl)
  have w1 : Wf (u_latest s (fu (s_latest s) x (some c))) := w.ulatest (fun k hk => by cases hk; exact hc)
  rw [tk_k h M w hc hn (by decide), nI1]
  cases hf : s_fr s c with
  | none =>
    obtain ⟨m, hm⟩ := bar_of hf hn
    have hmM := barS_lt hm
    rw [tk_20s h M w hx hc hf hm, tk_62n h (by decide)]
    obtain ⟨t2, h2, M2, F2⟩ := tk_109s1 (n := n) (x := x) (c := c) (m := m) h M1 w1 hc (by omega) hf 0
    obtain ⟨t3, h3, M3, F3⟩ := fR_take_163_1 (n := n) (x := x) (c := c) (m := m) h M2 (by omega) 0
    rw [h2, h3, takeS_1s hn hf hm]
    rw [y_held_came, y_held_latest, y_came_latest] at M3
    exact ⟨t3, rfl, M3, rfl, (Fr6.uI (Fr6.refl _)).trans (F2.trans F3)⟩
  | some k =>
    obtain ⟨z, l, hl, hz1⟩ := head_of hf hn
    obtain ⟨m, hm, hz2⟩ := w.bar (c := c) (z := z) (by rw [hl]; exact List.mem_cons_self) hz1
    have hhd : (hdV (s_q s c)).toInt32.toNatClampNeg = m := by rw [hl]; show z.2.toInt32.toNatClampNeg = m; rw [hz2, lN_i, nI_clamp (by omega)]
    rw [tk_20l h M w hx hc hf hl hz2, tk_62n h (by decide)]
    obtain ⟨t2, h2, M2, F2⟩ := tk_109l (n := n) (x := x) (c := c) h M1 w1 hc hf (by rw [y_q_latest, hl]; exact Nat.succ_pos _) 1 (nI m) 0
    obtain ⟨t3, h3, M3, F3⟩ := fR_take_163_1 (n := n) (x := x) (c := c) (m := m) h M2 (by omega) 0
    rw [h2, h3, takeS_1l hn hf hhd]
    rw [y_held_q, y_held_latest, y_q_latest] at M3
    exact ⟨t3, rfl, M3, rfl, (Fr6.uI (Fr6.refl _)).trans (F2.trans F3)⟩
set_option maxHeartbeats 2000000 in
theorem fR_take_2 (h : pRf e) (M : Mod t s) (w : Wf s) {x c : Nat} (hx : x < 8) (hc : c < s_C s) (hn : nextS s c = some 2) : ∃ t', fR_take (pv e t) n (pL e 6 0 0) (nI x) (nI c) = some (.inl (some (.int 3)), pv e t', n) ∧ Mod t' (takeS s x c).2 ∧ (takeS s x c).1 = 3 ∧ Fr6 t t' := by
  have hN1 := w.N1; have hN8 := w.N8; have hC := w.C; have hM := w.M; have hA := w.ackn
  have M1 := M.v_latest (hI_fu o2i (k := x) (v := nI c) (a := some c) M.c_r4 rfl)
  have w1 : Wf (u_latest s (fu (s_latest s) x (some c))) := w.ulatest (fun k hk => by cases hk; exact hc)
  rw [tk_k h M w hc hn (by decide), nI2, tk_20n h hx (by decide), tk_62n h (by decide)]
  cases hf : s_fr s c with
  | none =>
    rw [tk_109s2 h M1 w1 hc hf]
    obtain ⟨t3, h3, M3, F3⟩ := fR_take_163_2 (n := n) (x := x) (c := c) h M1 (by omega) (-1) 0
    rw [h3, takeS_2s hn hf]
    rw [y_over_latest] at M3
    exact ⟨t3, rfl, M3, rfl, (Fr6.uI (Fr6.refl _)).trans F3⟩
  | some k =>
    obtain ⟨z, l, hl, hz1⟩ := head_of hf hn
    obtain ⟨t2, h2, M2, F2⟩ := tk_109l (n := n) (x := x) (c := c) h M1 w1 hc hf (by rw [y_q_latest, hl]; exact Nat.succ_pos _) 2 (-1) 0
    obtain ⟨t3, h3, M3, F3⟩ := fR_take_163_2 (n := n) (x := x) (c := c) h M2 (by omega) (-1) 0
    rw [h2, h3, takeS_2l hn hf]
    rw [y_over_q, y_over_latest, y_q_latest] at M3
    exact ⟨t3, rfl, M3, rfl, (Fr6.uI (Fr6.refl _)).trans (F2.trans F3)⟩
set_option maxHeartbeats 2000000 in
theorem fR_take_eq (h : pRf e) (M : Mod t s) (w : Wf s) {x c k : Nat} (hx : x < 8) (hc : c < s_C s) (hn : nextS s c = some k) : ∃ t', fR_take (pv e t) n (pL e 6 0 0) (nI x) (nI c) = some (.inl (some (.int (nI (takeS s x c).1))), pv e t', n) ∧ Mod t' (takeS s x c).2 ∧ Fr6 t t' := by
  have hk := nextS_le w hn
  match k, hk with
  | 0, _ =>
    cases hcr : credit s x with
    | true =>
      obtain ⟨t', h1, h2, h3, h4⟩ := fR_take_0 (n := n) h M w hx hc hn hcr
      exact ⟨t', by rw [h1, h3]; rfl, h2, h4⟩
    | false =>
      have e1 : takeS s x c = (0, s) := by
        unfold takeS
        rw [hn]
        simp only [hcr, Bool.false_eq_true, if_false]
      rw [e1]
      unfold fR_take
      generalize fR_take_20 = G
      simp (disch := first | assumption | omega | exact b2i_01 _ | exact Or.inl rfl | exact Or.inr rfl) only [rf_0 h, rf_1 h, rf_2 h, rf_3 h, rf_4 h, rf_5 h, rf_6 h, rf_7 h, rf_8 h, rf_9 h, rf_10 h, rf_11 h, rf_12 h, rf_13 h, rf_14 h, rf_15 h, rf_16 h, rf_17 h, rf_18 h, rf_19 h, rf_20 h, rf_21 h, rf_22 h, rf_23 h, rf_24 h, rf_25 h, rf_26 h, rf_27 h, rf_28 h, rf_29 h, rf_30 h, rf_31 h, rf_32 h, rf_33 h, rp_1 h, rp_2 h, rp_7 h, rp_19 h, rp_29 h, rg_1 h, rg_2 h, rg_3 h, rg_4 h, rg_5 h, rg_6 h, rg_7 h, rg_8 h, rg_9 h, rg_10 h, rg_11 h, rg_12 h, rg_13 h, rg_14 h, rg_15 h, rg_16 h, rg_17 h, rg_18 h, rg_19 h, rg_20 h, rg_21 h, rg_22 h, rg_23 h, rg_24 h, rg_25 h, rg_26 h, rg_27 h, rg_28 h, rs_1 h, rs_2 h, rs_3 h, rs_4 h, rs_5 h, rs_6 h, rs_7 h, rs_8 h, rs_9 h, rs_10 h, rs_11 h, rs_12 h, rs_13 h, rs_14 h, rs_15 h, rs_16 h, rs_17 h, rs_18 h, rs_19 h, rs_20 h, rs_21 h, rs_22 h, rs_23 h, rs_24 h, rs_25 h, rs_26 h, rs_27 h, rs_28 h, ro h, rI_uI, rI_uJ, rI_uR, rI_wI, rI_wJ, rJ_uJ, rJ_uI, rJ_uR, rJ_wI, rJ_wJ, rR_uR, rR_uI, rR_uJ, rR_wI, rR_wJ, qI_wI, qI_wJ, qI_uI, qI_uJ, qI_uR, qJ_wJ, qJ_wI, qJ_uI, qJ_uJ, qJ_uR, Option.bind_some, zcV_s, zcI_s, zcL_s, zrI, zrV, zrL, nI_mul8, nI_mul16, nI_mul200, nI_1, eq_self, Nat.reduceEqDiff, and_true, true_and, and_false, false_and, and_self, ite_true, ite_false, ↓reduceIte, Nat.add_zero, if_true, if_false, b2i_t, b2i_f, o2i_s, o2i_n, M.c_f0, M.c_f2, M.c_f7, M.c_f19, M.c_f29, M.r1, M.r2, M.r3, M.r4, M.r5, M.r6, M.r9, M.r11, M.r12, M.r13, M.r14, M.r15, M.r16, M.r17, M.r18, M.r19, M.r20, M.r21, M.r22, M.r23, M.r24, nI_leI, nI_ltI, nI_eq, nI_eq0, nI_eqm1, b2i_eq0, fR_next_eq h M w hc, fR_hasCredit_eq h M w hx, hn, hcr, nI0]
      exact ⟨t, rfl, M, Fr6.refl _⟩
  | 1, _ =>
    obtain ⟨t', h1, h2, h3, h4⟩ := fR_take_1 (n := n) h M w hx hc hn
    exact ⟨t', by rw [h1, h3]; rfl, h2, h4⟩
  | 2, _ =>
    obtain ⟨t', h1, h2, h3, h4⟩ := fR_take_2 (n := n) h M w hx hc hn
    exact ⟨t', by rw [h1, h3]; rfl, h2, h4⟩
end PM
