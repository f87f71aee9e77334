/-! loops by a counter; the reference's reading methods -/
section PM
variable {e : pE} {t : pS} {s : zSt} {n : Nat}
theorem any_ins (s : zSt) (x : Nat) : ((List.range' 0 (s_C s)).any fun c => s_to s c == x) = hasIn s x := by
  unfold hasIn ins
  rw [← List.range_eq_range']
  cases h : (List.range (s_C s)).any fun c => s_to s c == x with
  | true =>
    obtain ⟨c, hc, hq⟩ := List.any_eq_true.mp h
    have : c ∈ (List.range (s_C s)).filter fun c => s_to s c == x := List.mem_filter.mpr ⟨hc, hq⟩
    cases hl : (List.range (s_C s)).filter fun c => s_to s c == x with
    | nil => rw [hl] at this; cases this
    | cons a l => rfl
  | false =>
    have : (List.range (s_C s)).filter (fun c => s_to s c == x) = [] := List.filter_eq_nil_iff.mpr fun c hc hq => by
      have h9 : ((List.range (s_C s)).any fun c => s_to s c == x) = true := List.any_eq_true.mpr ⟨c, hc, hq⟩
      rw [h] at h9; cases h9
    rw [this]; rfl
theorem bqf {a b : Nat} (h : ¬ a = b) : (a == b) = false := beq_eq_false_iff_ne.mpr h
theorem bqo {a b : Option Nat} (h : ¬ a = b) : (a == b) = false := beq_eq_false_iff_ne.mpr h
theorem b2i_or1 (b : Bool) : b2i b ||| 1 = b2i true := by cases b <;> decide
theorem b2i_or0 (b : Bool) : b2i b ||| 0 = b2i b := by cases b <;> decide
theorem b2i_and1 (b : Bool) : b2i b &&& 1 = b2i b := by cases b <;> decide
theorem b2i_and0 (b : Bool) : b2i b &&& 0 = b2i false := by cases b <;> decide
theorem zrZ_b {b : Bool} {V : zV} {n : Nat} : zrZ (b2i b) V n = some (.inl (some (.int (b2i b))), V, n) := if_pos (b2i_01 b)
set_option maxHeartbeats 2000000 in
theorem fR_hasInto_4_eq (h : pRf e) (M : Mod t s) (w : Wf s) {x : Nat} (hx : x < 8) : ∀ (d c : Nat) (b : Bool) (f : Nat), c + d = s_C s → d < f → fR_hasInto_4 f (pv e t) n (pL e 6 0 0) (nI x) (b2i b) (nI c) = some (.inl (some (.int (b2i (b || (List.range' c d).any fun c => s_to s c == x)))), pv e t, n) := by
  have hN1 := w.N1; have hN8 := w.N8; have hC := w.C; have hM := w.M; have hA := w.ackn
  intro d
  induction d with
  | zero =>
    intro c b f hc hf
    obtain ⟨f, rfl⟩ : ∃ g, f = g + 1 := ⟨f - 1, by omega⟩
    have q : s_C s ≤ c := by omega
    unfold fR_hasInto_4
    simp (disch := first | assumption | omega | exact b2i_01 _ | exact Or.inl rfl | exact Or.inr rfl) only [rf_0 h, rf_1 h, rf_2 h, rf_3 h, rf_4 h, rf_5 h, rf_6 h, rf_7 h, rf_8 h, rf_9 h, rf_10 h, rf_11 h, rf_12 h, rf_13 h, rf_14 h, rf_15 h, rf_16 h, rf_17 h, rf_18 h, rf_19 h, rf_20 h, rf_21 h, rf_22 h, rf_23 h, rf_24 h, rf_25 h, rf_26 h, rf_27 h, rf_28 h, rf_29 h, rf_30 h, rf_31 h, rf_32 h, rf_33 h, rp_1 h, rp_2 h, rp_7 h, rp_19 h, rp_29 h, rg_1 h, rg_2 h, rg_3 h, rg_4 h, rg_5 h, rg_6 h, rg_7 h, rg_8 h, rg_9 h, rg_10 h, rg_11 h, rg_12 h, rg_13 h, rg_14 h, rg_15 h, rg_16 h, rg_17 h, rg_18 h, rg_19 h, rg_20 h, rg_21 h, rg_22 h, rg_23 h, rg_24 h, rg_25 h, rg_26 h, rg_27 h, rg_28 h, rs_1 h, rs_2 h, rs_3 h, rs_4 h, rs_5 h, rs_6 h, rs_7 h, rs_8 h, rs_9 h, rs_10 h, rs_11 h, rs_12 h, rs_13 h, rs_14 h, rs_15 h, rs_16 h, rs_17 h, rs_18 h, rs_19 h, rs_20 h, rs_21 h, rs_22 h, rs_23 h, rs_24 h, rs_25 h, rs_26 h, rs_27 h, rs_28 h, ro h, rI_uI, rI_uJ, rI_uR, rI_wI, rI_wJ, rJ_uJ, rJ_uI, rJ_uR, rJ_wI, rJ_wJ, rR_uR, rR_uI, rR_uJ, rR_wI, rR_wJ, qI_wI, qI_wJ, qI_uI, qI_uJ, qI_uR, qJ_wJ, qJ_wI, qJ_uI, qJ_uJ, qJ_uR, Option.bind_some, zcV_s, zcI_s, zcL_s, zrI, zrV, zrL, nI_mul8, nI_mul16, nI_mul200, nI_1, eq_self, Nat.reduceEqDiff, and_true, true_and, and_false, false_and, and_self, ite_true, ite_false, ↓reduceIte, Nat.add_zero, if_true, if_false, b2i_t, b2i_f, o2i_s, o2i_n, M.c_f0, M.c_f2, M.c_f7, M.c_f19, M.c_f29, M.r1, M.r2, M.r3, M.r4, M.r5, M.r6, M.r9, M.r11, M.r12, M.r13, M.r14, M.r15, M.r16, M.r17, M.r18, M.r19, M.r20, M.r21, M.r22, M.r23, M.r24, nI_leI, nI_ltI, nI_eq, nI_eq0, nI_eqm1, b2i_eq0, q, zrZ_b]
    simp
  | succ d ih =>
    intro c b f hc hf
    obtain ⟨f, rfl⟩ : ∃ g, f = g + 1 := ⟨f - 1, by omega⟩
    have q : ¬ s_C s ≤ c := by omega
    have hto := w.to (c := c) (by omega)
    unfold fR_hasInto_4 fR_hasInto_28
    simp (disch := first | assumption | omega | exact b2i_01 _ | exact Or.inl rfl | exact Or.inr rfl) only [rf_0 h, rf_1 h, rf_2 h, rf_3 h, rf_4 h, rf_5 h, rf_6 h, rf_7 h, rf_8 h, rf_9 h, rf_10 h, rf_11 h, rf_12 h, rf_13 h, rf_14 h, rf_15 h, rf_16 h, rf_17 h, rf_18 h, rf_19 h, rf_20 h, rf_21 h, rf_22 h, rf_23 h, rf_24 h, rf_25 h, rf_26 h, rf_27 h, rf_28 h, rf_29 h, rf_30 h, rf_31 h, rf_32 h, rf_33 h, rp_1 h, rp_2 h, rp_7 h, rp_19 h, rp_29 h, rg_1 h, rg_2 h, rg_3 h, rg_4 h, rg_5 h, rg_6 h, rg_7 h, rg_8 h, rg_9 h, rg_10 h, rg_11 h, rg_12 h, rg_13 h, rg_14 h, rg_15 h, rg_16 h, rg_17 h, rg_18 h, rg_19 h, rg_20 h, rg_21 h, rg_22 h, rg_23 h, rg_24 h, rg_25 h, rg_26 h, rg_27 h, rg_28 h, rs_1 h, rs_2 h, rs_3 h, rs_4 h, rs_5 h, rs_6 h, rs_7 h, rs_8 h, rs_9 h, rs_10 h, rs_11 h, rs_12 h, rs_13 h, rs_14 h, rs_15 h, rs_16 h, rs_17 h, rs_18 h, rs_19 h, rs_20 h, rs_21 h, rs_22 h, rs_23 h, rs_24 h, rs_25 h, rs_26 h, rs_27 h, rs_28 h, ro h, rI_uI, rI_uJ, rI_uR, rI_wI, rI_wJ, rJ_uJ, rJ_uI, rJ_uR, rJ_wI, rJ_wJ, rR_uR, rR_uI, rR_uJ, rR_wI, rR_wJ, qI_wI, qI_wJ, qI_uI, qI_uJ, qI_uR, qJ_wJ, qJ_wI, qJ_uI, qJ_uJ, qJ_uR, Option.bind_some, zcV_s, zcI_s, zcL_s, zrI, zrV, zrL, nI_mul8, nI_mul16, nI_mul200, nI_1, eq_self, Nat.reduceEqDiff, and_true, true_and, and_false, false_and, and_self, ite_true, ite_false, ↓reduceIte, Nat.add_zero, if_true, if_false, b2i_t, b2i_f, o2i_s, o2i_n, M.c_f0, M.c_f2, M.c_f7, M.c_f19, M.c_f29, M.r1, M.r2, M.r3, M.r4, M.r5, M.r6, M.r9, M.r11, M.r12, M.r13, M.r14, M.r15, M.r16, M.r17, M.r18, M.r19, M.r20, M.r21, M.r22, M.r23, M.r24, nI_leI, nI_ltI, nI_eq, nI_eq0, nI_eqm1, b2i_eq0, q]
    rw [List.range'_succ, List.any_cons]
    by_cases hq : s_to s c = x
    · rw [if_pos hq, b2i_or1, ih (c + 1) _ f (by omega) (by omega)]
      simp [hq]
    · rw [if_neg hq, b2i_or0, ih (c + 1) _ f (by omega) (by omega)]
      simp [bqf hq]
theorem fR_hasInto_eq (h : pRf e) (M : Mod t s) (w : Wf s) {x : Nat} (hx : x < 8) : fR_hasInto (pv e t) n (pL e 6 0 0) (nI x) = some (.inl (some (.int (b2i (hasIn s x)))), pv e t, n) := by
  unfold fR_hasInto
  have := fR_hasInto_4_eq (n := n) h M w hx (s_C s) 0 false zF (by omega) (zF_big (by have := w.C; omega))
  rw [any_ins] at this
  exact this
theorem fr_b (w : Wf s) {c : Nat} (hc : c < s_C s) : ∀ k, s_fr s c = some k → k < 2 ^ 31 := fun k hk => by
  have := w.fr hc hk
  have := w.N8
  omega
theorem held_b (w : Wf s) (c : Nat) : ∀ k, s_held s c = some k → k < 2 ^ 31 := fun k hk => by
  have := w.held hk
  have := w.M
  omega
set_option maxHeartbeats 2000000 in
theorem fR_isSource_eq (h : pRf e) (M : Mod t s) (w : Wf s) {c : Nat} (hc : c < s_C s) : fR_isSource (pv e t) n (pL e 6 0 0) (nI c) = some (.inl (some (.int (b2i (s_fr s c).isNone))), pv e t, n) := by
  have hN1 := w.N1; have hN8 := w.N8; have hC := w.C; have hM := w.M; have hA := w.ackn
  unfold fR_isSource
  simp (disch := first | assumption | omega | exact b2i_01 _ | exact Or.inl rfl | exact Or.inr rfl) only [rf_0 h, rf_1 h, rf_2 h, rf_3 h, rf_4 h, rf_5 h, rf_6 h, rf_7 h, rf_8 h, rf_9 h, rf_10 h, rf_11 h, rf_12 h, rf_13 h, rf_14 h, rf_15 h, rf_16 h, rf_17 h, rf_18 h, rf_19 h, rf_20 h, rf_21 h, rf_22 h, rf_23 h, rf_24 h, rf_25 h, rf_26 h, rf_27 h, rf_28 h, rf_29 h, rf_30 h, rf_31 h, rf_32 h, rf_33 h, rp_1 h, rp_2 h, rp_7 h, rp_19 h, rp_29 h, rg_1 h, rg_2 h, rg_3 h, rg_4 h, rg_5 h, rg_6 h, rg_7 h, rg_8 h, rg_9 h, rg_10 h, rg_11 h, rg_12 h, rg_13 h, rg_14 h, rg_15 h, rg_16 h, rg_17 h, rg_18 h, rg_19 h, rg_20 h, rg_21 h, rg_22 h, rg_23 h, rg_24 h, rg_25 h, rg_26 h, rg_27 h, rg_28 h, rs_1 h, rs_2 h, rs_3 h, rs_4 h, rs_5 h, rs_6 h, rs_7 h, rs_8 h, rs_9 h, rs_10 h, rs_11 h, rs_12 h, rs_13 h, rs_14 h, rs_15 h, rs_16 h, rs_17 h, rs_18 h, rs_19 h, rs_20 h, rs_21 h, rs_22 h, rs_23 h, rs_24 h, rs_25 h, rs_26 h, rs_27 h, rs_28 h, ro h, rI_uI, rI_uJ, rI_uR, rI_wI, rI_wJ, rJ_uJ, rJ_uI, rJ_uR, rJ_wI, rJ_wJ, rR_uR, rR_uI, rR_uJ, rR_wI, rR_wJ, qI_wI, qI_wJ, qI_uI, qI_uJ, qI_uR, qJ_wJ, qJ_wI, qJ_uI, qJ_uJ, qJ_uR, Option.bind_some, zcV_s, zcI_s, zcL_s, zrI, zrV, zrL, nI_mul8, nI_mul16, nI_mul200, nI_1, eq_self, Nat.reduceEqDiff, and_true, true_and, and_false, false_and, and_self, ite_true, ite_false, ↓reduceIte, Nat.add_zero, if_true, if_false, b2i_t, b2i_f, o2i_s, o2i_n, M.c_f0, M.c_f2, M.c_f7, M.c_f19, M.c_f29, M.r1, M.r2, M.r3, M.r4, M.r5, M.r6, M.r9, M.r11, M.r12, M.r13, M.r14, M.r15, M.r16, M.r17, M.r18, M.r19, M.r20, M.r21, M.r22, M.r23, M.r24, nI_leI, nI_ltI, nI_eq, nI_eq0, nI_eqm1, b2i_eq0, o2i_m1 (fr_b w hc)]
  cases hk : s_fr s c <;> rfl
set_option maxHeartbeats 2000000 in
theorem fR_begun_4_eq (h : pRf e) (M : Mod t s) (w : Wf s) : ∀ (d c k : Nat) (f : Nat), c + d = s_M s → d < f → fR_begun_4 f (pv e t) n (pL e 6 0 0) (nI k) (nI c) = some (.inl (some (.int (nI (k + ((List.range' c d).filter fun m => s_cond s m == 0).length)))), pv e t, n) := by
  have hN1 := w.N1; have hN8 := w.N8; have hC := w.C; have hM := w.M; have hA := w.ackn
  intro d
  induction d with
  | zero =>
    intro c k f hc hf
    obtain ⟨f, rfl⟩ : ∃ g, f = g + 1 := ⟨f - 1, by omega⟩
    have q : s_M s ≤ c := by omega
    unfold fR_begun_4
    simp (disch := first | assumption | omega | exact b2i_01 _ | exact Or.inl rfl | exact Or.inr rfl) only [rf_0 h, rf_1 h, rf_2 h, rf_3 h, rf_4 h, rf_5 h, rf_6 h, rf_7 h, rf_8 h, rf_9 h, rf_10 h, rf_11 h, rf_12 h, rf_13 h, rf_14 h, rf_15 h, rf_16 h, rf_17 h, rf_18 h, rf_19 h, rf_20 h, rf_21 h, rf_22 h, rf_23 h, rf_24 h, rf_25 h, rf_26 h, rf_27 h, rf_28 h, rf_29 h, rf_30 h, rf_31 h, rf_32 h, rf_33 h, rp_1 h, rp_2 h, rp_7 h, rp_19 h, rp_29 h, rg_1 h, rg_2 h, rg_3 h, rg_4 h, rg_5 h, rg_6 h, rg_7 h, rg_8 h, rg_9 h, rg_10 h, rg_11 h, rg_12 h, rg_13 h, rg_14 h, rg_15 h, rg_16 h, rg_17 h, rg_18 h, rg_19 h, rg_20 h, rg_21 h, rg_22 h, rg_23 h, rg_24 h, rg_25 h, rg_26 h, rg_27 h, rg_28 h, rs_1 h, rs_2 h, rs_3 h, rs_4 h, rs_5 h, rs_6 h, rs_7 h, rs_8 h, rs_9 h, rs_10 h, rs_11 h, rs_12 h, rs_13 h, rs_14 h, rs_15 h, rs_16 h, rs_17 h, rs_18 h, rs_19 h, rs_20 h, rs_21 h, rs_22 h, rs_23 h, rs_24 h, rs_25 h, rs_26 h, rs_27 h, rs_28 h, ro h, rI_uI, rI_uJ, rI_uR, rI_wI, rI_wJ, rJ_uJ, rJ_uI, rJ_uR, rJ_wI, rJ_wJ, rR_uR, rR_uI, rR_uJ, rR_wI, rR_wJ, qI_wI, qI_wJ, qI_uI, qI_uJ, qI_uR, qJ_wJ, qJ_wI, qJ_uI, qJ_uJ, qJ_uR, Option.bind_some, zcV_s, zcI_s, zcL_s, zrI, zrV, zrL, nI_mul8, nI_mul16, nI_mul200, nI_1, eq_self, Nat.reduceEqDiff, and_true, true_and, and_false, false_and, and_self, ite_true, ite_false, ↓reduceIte, Nat.add_zero, if_true, if_false, b2i_t, b2i_f, o2i_s, o2i_n, M.c_f0, M.c_f2, M.c_f7, M.c_f19, M.c_f29, M.r1, M.r2, M.r3, M.r4, M.r5, M.r6, M.r9, M.r11, M.r12, M.r13, M.r14, M.r15, M.r16, M.r17, M.r18, M.r19, M.r20, M.r21, M.r22, M.r23, M.r24, nI_leI, nI_ltI, nI_eq, nI_eq0, nI_eqm1, b2i_eq0, q]
    simp
  | succ d ih =>
    intro c k f hc hf
    obtain ⟨f, rfl⟩ : ∃ g, f = g + 1 := ⟨f - 1, by omega⟩
    have q : ¬ s_M s ≤ c := by omega
    have hc2 := w.cond c
    unfold fR_begun_4 fR_begun_27
    simp (disch := first | assumption | omega | exact b2i_01 _ | exact Or.inl rfl | exact Or.inr rfl) only [rf_0 h, rf_1 h, rf_2 h, rf_3 h, rf_4 h, rf_5 h, rf_6 h, rf_7 h, rf_8 h, rf_9 h, rf_10 h, rf_11 h, rf_12 h, rf_13 h, rf_14 h, rf_15 h, rf_16 h, rf_17 h, rf_18 h, rf_19 h, rf_20 h, rf_21 h, rf_22 h, rf_23 h, rf_24 h, rf_25 h, rf_26 h, rf_27 h, rf_28 h, rf_29 h, rf_30 h, rf_31 h, rf_32 h, rf_33 h, rp_1 h, rp_2 h, rp_7 h, rp_19 h, rp_29 h, rg_1 h, rg_2 h, rg_3 h, rg_4 h, rg_5 h, rg_6 h, rg_7 h, rg_8 h, rg_9 h, rg_10 h, rg_11 h, rg_12 h, rg_13 h, rg_14 h, rg_15 h, rg_16 h, rg_17 h, rg_18 h, rg_19 h, rg_20 h, rg_21 h, rg_22 h, rg_23 h, rg_24 h, rg_25 h, rg_26 h, rg_27 h, rg_28 h, rs_1 h, rs_2 h, rs_3 h, rs_4 h, rs_5 h, rs_6 h, rs_7 h, rs_8 h, rs_9 h, rs_10 h, rs_11 h, rs_12 h, rs_13 h, rs_14 h, rs_15 h, rs_16 h, rs_17 h, rs_18 h, rs_19 h, rs_20 h, rs_21 h, rs_22 h, rs_23 h, rs_24 h, rs_25 h, rs_26 h, rs_27 h, rs_28 h, ro h, rI_uI, rI_uJ, rI_uR, rI_wI, rI_wJ, rJ_uJ, rJ_uI, rJ_uR, rJ_wI, rJ_wJ, rR_uR, rR_uI, rR_uJ, rR_wI, rR_wJ, qI_wI, qI_wJ, qI_uI, qI_uJ, qI_uR, qJ_wJ, qJ_wI, qJ_uI, qJ_uJ, qJ_uR, Option.bind_some, zcV_s, zcI_s, zcL_s, zrI, zrV, zrL, nI_mul8, nI_mul16, nI_mul200, nI_1, eq_self, Nat.reduceEqDiff, and_true, true_and, and_false, false_and, and_self, ite_true, ite_false, ↓reduceIte, Nat.add_zero, if_true, if_false, b2i_t, b2i_f, o2i_s, o2i_n, M.c_f0, M.c_f2, M.c_f7, M.c_f19, M.c_f29, M.r1, M.r2, M.r3, M.r4, M.r5, M.r6, M.r9, M.r11, M.r12, M.r13, M.r14, M.r15, M.r16, M.r17, M.r18, M.r19, M.r20, M.r21, M.r22, M.r23, M.r24, nI_leI, nI_ltI, nI_eq, nI_eq0, nI_eqm1, b2i_eq0, q, Int32.add_zero]
    rw [List.range'_succ]
    by_cases hq : s_cond s c = 0
    · rw [if_pos hq, ih (c + 1) (k + 1) f (by omega) (by omega), List.filter_cons_of_pos (by simp [hq]), List.length_cons, show ∀ j, k + 1 + j = k + (j + 1) from fun j => by omega]
    · rw [if_neg hq, ih (c + 1) k f (by omega) (by omega), List.filter_cons_of_neg (by simp [hq])]
theorem fR_begun_eq (h : pRf e) (M : Mod t s) (w : Wf s) : fR_begun (pv e t) n (pL e 6 0 0) = some (.inl (some (.int (nI (begunS s)))), pv e t, n) := by
  unfold fR_begun begunS
  have := fR_begun_4_eq (n := n) h M w (s_M s) 0 0 zF (by omega) (zF_big (by have := w.M; omega))
  rw [List.range_eq_range']
  rw [Nat.zero_add] at this
  exact this
set_option maxHeartbeats 2000000 in
theorem fR_count_4_eq (h : pRf e) (M : Mod t s) (w : Wf s) {m : Nat} (hm : m < 40) : ∀ (d c k : Nat) (f : Nat), c + d = s_N s → d < f → fR_count_4 f (pv e t) n (pL e 6 0 0) (nI m) (nI k) (nI c) = some (.inl (some (.int (nI (k + ((List.range' c d).filter fun x => s_taken s m x).length)))), pv e t, n) := by
  have hN1 := w.N1; have hN8 := w.N8; have hC := w.C; have hM := w.M; have hA := w.ackn
  intro d
  induction d with
  | zero =>
    intro c k f hc hf
    obtain ⟨f, rfl⟩ : ∃ g, f = g + 1 := ⟨f - 1, by omega⟩
    have q : s_N s ≤ c := by omega
    unfold fR_count_4
    simp (disch := first | assumption | omega | exact b2i_01 _ | exact Or.inl rfl | exact Or.inr rfl) only [rf_0 h, rf_1 h, rf_2 h, rf_3 h, rf_4 h, rf_5 h, rf_6 h, rf_7 h, rf_8 h, rf_9 h, rf_10 h, rf_11 h, rf_12 h, rf_13 h, rf_14 h, rf_15 h, rf_16 h, rf_17 h, rf_18 h, rf_19 h, rf_20 h, rf_21 h, rf_22 h, rf_23 h, rf_24 h, rf_25 h, rf_26 h, rf_27 h, rf_28 h, rf_29 h, rf_30 h, rf_31 h, rf_32 h, rf_33 h, rp_1 h, rp_2 h, rp_7 h, rp_19 h, rp_29 h, rg_1 h, rg_2 h, rg_3 h, rg_4 h, rg_5 h, rg_6 h, rg_7 h, rg_8 h, rg_9 h, rg_10 h, rg_11 h, rg_12 h, rg_13 h, rg_14 h, rg_15 h, rg_16 h, rg_17 h, rg_18 h, rg_19 h, rg_20 h, rg_21 h, rg_22 h, rg_23 h, rg_24 h, rg_25 h, rg_26 h, rg_27 h, rg_28 h, rs_1 h, rs_2 h, rs_3 h, rs_4 h, rs_5 h, rs_6 h, rs_7 h, rs_8 h, rs_9 h, rs_10 h, rs_11 h, rs_12 h, rs_13 h, rs_14 h, rs_15 h, rs_16 h, rs_17 h, rs_18 h, rs_19 h, rs_20 h, rs_21 h, rs_22 h, rs_23 h, rs_24 h, rs_25 h, rs_26 h, rs_27 h, rs_28 h, ro h, rI_uI, rI_uJ, rI_uR, rI_wI, rI_wJ, rJ_uJ, rJ_uI, rJ_uR, rJ_wI, rJ_wJ, rR_uR, rR_uI, rR_uJ, rR_wI, rR_wJ, qI_wI, qI_wJ, qI_uI, qI_uJ, qI_uR, qJ_wJ, qJ_wI, qJ_uI, qJ_uJ, qJ_uR, Option.bind_some, zcV_s, zcI_s, zcL_s, zrI, zrV, zrL, nI_mul8, nI_mul16, nI_mul200, nI_1, eq_self, Nat.reduceEqDiff, and_true, true_and, and_false, false_and, and_self, ite_true, ite_false, ↓reduceIte, Nat.add_zero, if_true, if_false, b2i_t, b2i_f, o2i_s, o2i_n, M.c_f0, M.c_f2, M.c_f7, M.c_f19, M.c_f29, M.r1, M.r2, M.r3, M.r4, M.r5, M.r6, M.r9, M.r11, M.r12, M.r13, M.r14, M.r15, M.r16, M.r17, M.r18, M.r19, M.r20, M.r21, M.r22, M.r23, M.r24, nI_leI, nI_ltI, nI_eq, nI_eq0, nI_eqm1, b2i_eq0, q]
    simp
  | succ d ih =>
    intro c k f hc hf
    obtain ⟨f, rfl⟩ : ∃ g, f = g + 1 := ⟨f - 1, by omega⟩
    have q : ¬ s_N s ≤ c := by omega
    unfold fR_count_4 fR_count_32
    simp (disch := first | assumption | omega | exact b2i_01 _ | exact Or.inl rfl | exact Or.inr rfl) only [rf_0 h, rf_1 h, rf_2 h, rf_3 h, rf_4 h, rf_5 h, rf_6 h, rf_7 h, rf_8 h, rf_9 h, rf_10 h, rf_11 h, rf_12 h, rf_13 h, rf_14 h, rf_15 h, rf_16 h, rf_17 h, rf_18 h, rf_19 h, rf_20 h, rf_21 h, rf_22 h, rf_23 h, rf_24 h, rf_25 h, rf_26 h, rf_27 h, rf_28 h, rf_29 h, rf_30 h, rf_31 h, rf_32 h, rf_33 h, rp_1 h, rp_2 h, rp_7 h, rp_19 h, rp_29 h, rg_1 h, rg_2 h, rg_3 h, rg_4 h, rg_5 h, rg_6 h, rg_7 h, rg_8 h, rg_9 h, rg_10 h, rg_11 h, rg_12 h, rg_13 h, rg_14 h, rg_15 h, rg_16 h, rg_17 h, rg_18 h, rg_19 h, rg_20 h, rg_21 h, rg_22 h, rg_23 h, rg_24 h, rg_25 h, rg_26 h, rg_27 h, rg_28 h, rs_1 h, rs_2 h, rs_3 h, rs_4 h, rs_5 h, rs_6 h, rs_7 h, rs_8 h, rs_9 h, rs_10 h, rs_11 h, rs_12 h, rs_13 h, rs_14 h, rs_15 h, rs_16 h, rs_17 h, rs_18 h, rs_19 h, rs_20 h, rs_21 h, rs_22 h, rs_23 h, rs_24 h, rs_25 h, rs_26 h, rs_27 h, rs_28 h, ro h, rI_uI, rI_uJ, rI_uR, rI_wI, rI_wJ, rJ_uJ, rJ_uI, rJ_uR, rJ_wI, rJ_wJ, rR_uR, rR_uI, rR_uJ, rR_wI, rR_wJ, qI_wI, qI_wJ, qI_uI, qI_uJ, qI_uR, qJ_wJ, qJ_wI, qJ_uI, qJ_uJ, qJ_uR, Option.bind_some, zcV_s, zcI_s, zcL_s, zrI, zrV, zrL, nI_mul8, nI_mul16, nI_mul200, nI_1, eq_self, Nat.reduceEqDiff, and_true, true_and, and_false, false_and, and_self, ite_true, ite_false, ↓reduceIte, Nat.add_zero, if_true, if_false, b2i_t, b2i_f, o2i_s, o2i_n, M.c_f0, M.c_f2, M.c_f7, M.c_f19, M.c_f29, M.r1, M.r2, M.r3, M.r4, M.r5, M.r6, M.r9, M.r11, M.r12, M.r13, M.r14, M.r15, M.r16, M.r17, M.r18, M.r19, M.r20, M.r21, M.r22, M.r23, M.r24, nI_leI, nI_ltI, nI_eq, nI_eq0, nI_eqm1, b2i_eq0, q, Int32.add_zero]
    rw [List.range'_succ]
    cases hq : s_taken s m c with
    | false => rw [if_pos rfl, ih (c + 1) k f (by omega) (by omega), List.filter_cons_of_neg (by simp [hq])]
    | true => rw [if_neg (by simp), ih (c + 1) (k + 1) f (by omega) (by omega), List.filter_cons_of_pos (by simp [hq]), List.length_cons, show ∀ j, k + 1 + j = k + (j + 1) from fun j => by omega]
theorem fR_count_eq (h : pRf e) (M : Mod t s) (w : Wf s) {m : Nat} (hm : m < 40) : fR_count (pv e t) n (pL e 6 0 0) (nI m) = some (.inl (some (.int (nI (countS s m)))), pv e t, n) := by
  unfold fR_count countS
  have := fR_count_4_eq (n := n) h M w hm (s_N s) 0 0 zF (by omega) (zF_big (by have := w.N8; omega))
  rw [List.range_eq_range']
  rw [Nat.zero_add] at this
  exact this
set_option maxHeartbeats 2000000 in
theorem fR_barrierOf_2_eq (h : pRf e) (M : Mod t s) (w : Wf s) {c : Nat} (hc : c < 16) : ∀ (d m : Nat) (f : Nat), m + d = s_M s → d < f → fR_barrierOf_2 f (pv e t) n (pL e 6 0 0) (nI c) (nI m) = some (.inl (some (.int (o2i ((List.range' m d).find? fun m => s_cond s m == 0 && !s_came s m c && s_pos s m c == s_stand s c)))), pv e t, n) := by
  have hN1 := w.N1; have hN8 := w.N8; have hC := w.C; have hM := w.M; have hA := w.ackn
  intro d
  induction d with
  | zero =>
    intro m f hm hf
    obtain ⟨f, rfl⟩ : ∃ g, f = g + 1 := ⟨f - 1, by omega⟩
    have q : s_M s ≤ m := by omega
    unfold fR_barrierOf_2
    simp (disch := first | assumption | omega | exact b2i_01 _ | exact Or.inl rfl | exact Or.inr rfl) only [rf_0 h, rf_1 h, rf_2 h, rf_3 h, rf_4 h, rf_5 h, rf_6 h, rf_7 h, rf_8 h, rf_9 h, rf_10 h, rf_11 h, rf_12 h, rf_13 h, rf_14 h, rf_15 h, rf_16 h, rf_17 h, rf_18 h, rf_19 h, rf_20 h, rf_21 h, rf_22 h, rf_23 h, rf_24 h, rf_25 h, rf_26 h, rf_27 h, rf_28 h, rf_29 h, rf_30 h, rf_31 h, rf_32 h, rf_33 h, rp_1 h, rp_2 h, rp_7 h, rp_19 h, rp_29 h, rg_1 h, rg_2 h, rg_3 h, rg_4 h, rg_5 h, rg_6 h, rg_7 h, rg_8 h, rg_9 h, rg_10 h, rg_11 h, rg_12 h, rg_13 h, rg_14 h, rg_15 h, rg_16 h, rg_17 h, rg_18 h, rg_19 h, rg_20 h, rg_21 h, rg_22 h, rg_23 h, rg_24 h, rg_25 h, rg_26 h, rg_27 h, rg_28 h, rs_1 h, rs_2 h, rs_3 h, rs_4 h, rs_5 h, rs_6 h, rs_7 h, rs_8 h, rs_9 h, rs_10 h, rs_11 h, rs_12 h, rs_13 h, rs_14 h, rs_15 h, rs_16 h, rs_17 h, rs_18 h, rs_19 h, rs_20 h, rs_21 h, rs_22 h, rs_23 h, rs_24 h, rs_25 h, rs_26 h, rs_27 h, rs_28 h, ro h, rI_uI, rI_uJ, rI_uR, rI_wI, rI_wJ, rJ_uJ, rJ_uI, rJ_uR, rJ_wI, rJ_wJ, rR_uR, rR_uI, rR_uJ, rR_wI, rR_wJ, qI_wI, qI_wJ, qI_uI, qI_uJ, qI_uR, qJ_wJ, qJ_wI, qJ_uI, qJ_uJ, qJ_uR, Option.bind_some, zcV_s, zcI_s, zcL_s, zrI, zrV, zrL, nI_mul8, nI_mul16, nI_mul200, nI_1, eq_self, Nat.reduceEqDiff, and_true, true_and, and_false, false_and, and_self, ite_true, ite_false, ↓reduceIte, Nat.add_zero, if_true, if_false, b2i_t, b2i_f, o2i_s, o2i_n, M.c_f0, M.c_f2, M.c_f7, M.c_f19, M.c_f29, M.r1, M.r2, M.r3, M.r4, M.r5, M.r6, M.r9, M.r11, M.r12, M.r13, M.r14, M.r15, M.r16, M.r17, M.r18, M.r19, M.r20, M.r21, M.r22, M.r23, M.r24, nI_leI, nI_ltI, nI_eq, nI_eq0, nI_eqm1, b2i_eq0, q]
    rfl
  | succ d ih =>
    intro m f hm hf
    obtain ⟨f, rfl⟩ : ∃ g, f = g + 1 := ⟨f - 1, by omega⟩
    have q : ¬ s_M s ≤ m := by omega
    have h1 := w.cond m
    have h2 := w.pos m c
    have h3 := w.stand c
    have h4 := w.log c
    unfold fR_barrierOf_2 fR_barrierOf_55
    simp (disch := first | assumption | omega | exact b2i_01 _ | exact Or.inl rfl | exact Or.inr rfl) only [rf_0 h, rf_1 h, rf_2 h, rf_3 h, rf_4 h, rf_5 h, rf_6 h, rf_7 h, rf_8 h, rf_9 h, rf_10 h, rf_11 h, rf_12 h, rf_13 h, rf_14 h, rf_15 h, rf_16 h, rf_17 h, rf_18 h, rf_19 h, rf_20 h, rf_21 h, rf_22 h, rf_23 h, rf_24 h, rf_25 h, rf_26 h, rf_27 h, rf_28 h, rf_29 h, rf_30 h, rf_31 h, rf_32 h, rf_33 h, rp_1 h, rp_2 h, rp_7 h, rp_19 h, rp_29 h, rg_1 h, rg_2 h, rg_3 h, rg_4 h, rg_5 h, rg_6 h, rg_7 h, rg_8 h, rg_9 h, rg_10 h, rg_11 h, rg_12 h, rg_13 h, rg_14 h, rg_15 h, rg_16 h, rg_17 h, rg_18 h, rg_19 h, rg_20 h, rg_21 h, rg_22 h, rg_23 h, rg_24 h, rg_25 h, rg_26 h, rg_27 h, rg_28 h, rs_1 h, rs_2 h, rs_3 h, rs_4 h, rs_5 h, rs_6 h, rs_7 h, rs_8 h, rs_9 h, rs_10 h, rs_11 h, rs_12 h, rs_13 h, rs_14 h, rs_15 h, rs_16 h, rs_17 h, rs_18 h, rs_19 h, rs_20 h, rs_21 h, rs_22 h, rs_23 h, rs_24 h, rs_25 h, rs_26 h, rs_27 h, rs_28 h, ro h, rI_uI, rI_uJ, rI_uR, rI_wI, rI_wJ, rJ_uJ, rJ_uI, rJ_uR, rJ_wI, rJ_wJ, rR_uR, rR_uI, rR_uJ, rR_wI, rR_wJ, qI_wI, qI_wJ, qI_uI, qI_uJ, qI_uR, qJ_wJ, qJ_wI, qJ_uI, qJ_uJ, qJ_uR, Option.bind_some, zcV_s, zcI_s, zcL_s, zrI, zrV, zrL, nI_mul8, nI_mul16, nI_mul200, nI_1, eq_self, Nat.reduceEqDiff, and_true, true_and, and_false, false_and, and_self, ite_true, ite_false, ↓reduceIte, Nat.add_zero, if_true, if_false, b2i_t, b2i_f, o2i_s, o2i_n, M.c_f0, M.c_f2, M.c_f7, M.c_f19, M.c_f29, M.r1, M.r2, M.r3, M.r4, M.r5, M.r6, M.r9, M.r11, M.r12, M.r13, M.r14, M.r15, M.r16, M.r17, M.r18, M.r19, M.r20, M.r21, M.r22, M.r23, M.r24, nI_leI, nI_ltI, nI_eq, nI_eq0, nI_eqm1, b2i_eq0, q, ih (m + 1) f (by omega) (by omega)]
    rw [List.range'_succ, List.find?_cons]
    by_cases q1 : s_cond s m = 0
    · rw [if_pos q1]
      cases q2 : s_came s m c with
      | true => simp [q1]
      | false =>
        rw [if_pos rfl]
        by_cases q3 : s_pos s m c = s_stand s c
        · rw [if_pos q3]
          simp [q1, q3, o2i]
        · rw [if_neg q3]
          simp [q1, bqf q3]
    · rw [if_neg q1]
      simp [bqf q1]
theorem fR_barrierOf_eq (h : pRf e) (M : Mod t s) (w : Wf s) {c : Nat} (hc : c < 16) : fR_barrierOf (pv e t) n (pL e 6 0 0) (nI c) = some (.inl (some (.int (o2i (barS s c)))), pv e t, n) := by
  unfold fR_barrierOf barS
  have := fR_barrierOf_2_eq (n := n) h M w hc (s_M s) 0 zF (by omega) (zF_big (by have := w.M; omega))
  rw [List.range_eq_range']
  exact this
theorem barS_lt {c m : Nat} (h : barS s c = some m) : m < s_M s := by
  have := List.mem_of_find?_eq_some h
  exact List.mem_range.mp this
theorem bar_b (w : Wf s) (c : Nat) : ∀ k, barS s c = some k → k < 2 ^ 31 := fun k hk => by
  have := barS_lt hk
  have := w.M
  omega
set_option maxHeartbeats 2000000 in
theorem fR_hasCredit_4_eq (h : pRf e) (M : Mod t s) (w : Wf s) {x : Nat} (hx : x < 8) : ∀ (d c : Nat) (b : Bool) (f : Nat), c + d = s_C s → d < f → fR_hasCredit_4 f (pv e t) n (pL e 6 0 0) (nI x) (b2i b) (nI c) = some (.inl (some (.int (b2i (b && (List.range' c d).all fun c => !(s_fr s c == some x) || decide ((s_q s c).length < 8))))), pv e t, n) := by
  have hN1 := w.N1; have hN8 := w.N8; have hC := w.C; have hM := w.M; have hA := w.ackn
  intro d
  induction d with
  | zero =>
    intro c b f hc hf
    obtain ⟨f, rfl⟩ : ∃ g, f = g + 1 := ⟨f - 1, by omega⟩
    have q : s_C s ≤ c := by omega
    unfold fR_hasCredit_4
    simp (disch := first | assumption | omega | exact b2i_01 _ | exact Or.inl rfl | exact Or.inr rfl) only [rf_0 h, rf_1 h, rf_2 h, rf_3 h, rf_4 h, rf_5 h, rf_6 h, rf_7 h, rf_8 h, rf_9 h, rf_10 h, rf_11 h, rf_12 h, rf_13 h, rf_14 h, rf_15 h, rf_16 h, rf_17 h, rf_18 h, rf_19 h, rf_20 h, rf_21 h, rf_22 h, rf_23 h, rf_24 h, rf_25 h, rf_26 h, rf_27 h, rf_28 h, rf_29 h, rf_30 h, rf_31 h, rf_32 h, rf_33 h, rp_1 h, rp_2 h, rp_7 h, rp_19 h, rp_29 h, rg_1 h, rg_2 h, rg_3 h, rg_4 h, rg_5 h, rg_6 h, rg_7 h, rg_8 h, rg_9 h, rg_10 h, rg_11 h, rg_12 h, rg_13 h, rg_14 h, rg_15 h, rg_16 h, rg_17 h, rg_18 h, rg_19 h, rg_20 h, rg_21 h, rg_22 h, rg_23 h, rg_24 h, rg_25 h, rg_26 h, rg_27 h, rg_28 h, rs_1 h, rs_2 h, rs_3 h, rs_4 h, rs_5 h, rs_6 h, rs_7 h, rs_8 h, rs_9 h, rs_10 h, rs_11 h, rs_12 h, rs_13 h, rs_14 h, rs_15 h, rs_16 h, rs_17 h, rs_18 h, rs_19 h, rs_20 h, rs_21 h, rs_22 h, rs_23 h, rs_24 h, rs_25 h, rs_26 h, rs_27 h, rs_28 h, ro h, rI_uI, rI_uJ, rI_uR, rI_wI, rI_wJ, rJ_uJ, rJ_uI, rJ_uR, rJ_wI, rJ_wJ, rR_uR, rR_uI, rR_uJ, rR_wI, rR_wJ, qI_wI, qI_wJ, qI_uI, qI_uJ, qI_uR, qJ_wJ, qJ_wI, qJ_uI, qJ_uJ, qJ_uR, Option.bind_some, zcV_s, zcI_s, zcL_s, zrI, zrV, zrL, nI_mul8, nI_mul16, nI_mul200, nI_1, eq_self, Nat.reduceEqDiff, and_true, true_and, and_false, false_and, and_self, ite_true, ite_false, ↓reduceIte, Nat.add_zero, if_true, if_false, b2i_t, b2i_f, o2i_s, o2i_n, M.c_f0, M.c_f2, M.c_f7, M.c_f19, M.c_f29, M.r1, M.r2, M.r3, M.r4, M.r5, M.r6, M.r9, M.r11, M.r12, M.r13, M.r14, M.r15, M.r16, M.r17, M.r18, M.r19, M.r20, M.r21, M.r22, M.r23, M.r24, nI_leI, nI_ltI, nI_eq, nI_eq0, nI_eqm1, b2i_eq0, q, zrZ_b]
    simp
  | succ d ih =>
    intro c b f hc hf
    obtain ⟨f, rfl⟩ : ∃ g, f = g + 1 := ⟨f - 1, by omega⟩
    have q : ¬ s_C s ≤ c := by omega
    have h1 := w.q c
    unfold fR_hasCredit_4 fR_hasCredit_34 fR_hasCredit_39
    rw [List.range'_succ, List.all_cons]
    simp (disch := first | assumption | omega | exact b2i_01 _ | exact Or.inl rfl | exact Or.inr rfl) only [rf_0 h, rf_1 h, rf_2 h, rf_3 h, rf_4 h, rf_5 h, rf_6 h, rf_7 h, rf_8 h, rf_9 h, rf_10 h, rf_11 h, rf_12 h, rf_13 h, rf_14 h, rf_15 h, rf_16 h, rf_17 h, rf_18 h, rf_19 h, rf_20 h, rf_21 h, rf_22 h, rf_23 h, rf_24 h, rf_25 h, rf_26 h, rf_27 h, rf_28 h, rf_29 h, rf_30 h, rf_31 h, rf_32 h, rf_33 h, rp_1 h, rp_2 h, rp_7 h, rp_19 h, rp_29 h, rg_1 h, rg_2 h, rg_3 h, rg_4 h, rg_5 h, rg_6 h, rg_7 h, rg_8 h, rg_9 h, rg_10 h, rg_11 h, rg_12 h, rg_13 h, rg_14 h, rg_15 h, rg_16 h, rg_17 h, rg_18 h, rg_19 h, rg_20 h, rg_21 h, rg_22 h, rg_23 h, rg_24 h, rg_25 h, rg_26 h, rg_27 h, rg_28 h, rs_1 h, rs_2 h, rs_3 h, rs_4 h, rs_5 h, rs_6 h, rs_7 h, rs_8 h, rs_9 h, rs_10 h, rs_11 h, rs_12 h, rs_13 h, rs_14 h, rs_15 h, rs_16 h, rs_17 h, rs_18 h, rs_19 h, rs_20 h, rs_21 h, rs_22 h, rs_23 h, rs_24 h, rs_25 h, rs_26 h, rs_27 h, rs_28 h, ro h, rI_uI, rI_uJ, rI_uR, rI_wI, rI_wJ, rJ_uJ, rJ_uI, rJ_uR, rJ_wI, rJ_wJ, rR_uR, rR_uI, rR_uJ, rR_wI, rR_wJ, qI_wI, qI_wJ, qI_uI, qI_uJ, qI_uR, qJ_wJ, qJ_wI, qJ_uI, qJ_uJ, qJ_uR, Option.bind_some, zcV_s, zcI_s, zcL_s, zrI, zrV, zrL, nI_mul8, nI_mul16, nI_mul200, nI_1, eq_self, Nat.reduceEqDiff, and_true, true_and, and_false, false_and, and_self, ite_true, ite_false, ↓reduceIte, Nat.add_zero, if_true, if_false, b2i_t, b2i_f, o2i_s, o2i_n, M.c_f0, M.c_f2, M.c_f7, M.c_f19, M.c_f29, M.r1, M.r2, M.r3, M.r4, M.r5, M.r6, M.r9, M.r11, M.r12, M.r13, M.r14, M.r15, M.r16, M.r17, M.r18, M.r19, M.r20, M.r21, M.r22, M.r23, M.r24, nI_leI, nI_ltI, nI_eq, nI_eq0, nI_eqm1, b2i_eq0, q, o2i_eq (fr_b w (show c < s_C s by omega)), show (8 : Int32) = nI 8 from rfl]
    by_cases hq : s_fr s c = some x
    · rw [if_pos hq]
      by_cases h8 : 8 ≤ (s_q s c).length
      · rw [if_pos h8, b2i_and0, ih (c + 1) _ f (by omega) (by omega)]
        simp [hq, show ¬ (s_q s c).length < 8 by omega]
      · rw [if_neg h8, b2i_and1, ih (c + 1) _ f (by omega) (by omega)]
        simp [hq, show (s_q s c).length < 8 by omega]
    · rw [if_neg hq, b2i_and1, ih (c + 1) _ f (by omega) (by omega)]
      simp [bqo hq]
theorem all_outs (s : zSt) (x : Nat) : ((List.range' 0 (s_C s)).all fun c => !(s_fr s c == some x) || decide ((s_q s c).length < 8)) = credit s x := by
  unfold credit outs
  rw [← List.range_eq_range', List.all_filter]
theorem fR_hasCredit_eq (h : pRf e) (M : Mod t s) (w : Wf s) {x : Nat} (hx : x < 8) : fR_hasCredit (pv e t) n (pL e 6 0 0) (nI x) = some (.inl (some (.int (b2i (credit s x)))), pv e t, n) := by
  unfold fR_hasCredit
  have := fR_hasCredit_4_eq (n := n) h M w hx (s_C s) 0 true zF (by omega) (zF_big (by have := w.C; omega))
  rw [all_outs] at this
  exact this
set_option maxHeartbeats 2000000 in
theorem fR_next_eq (h : pRf e) (M : Mod t s) (w : Wf s) {c : Nat} (hc : c < s_C s) : fR_next (pv e t) n (pL e 6 0 0) (nI c) = some (.inl (some (.int (o2i (nextS s c)))), pv e t, n) := by
  have hN1 := w.N1; have hN8 := w.N8; have hC := w.C; have hM := w.M; have hA := w.ackn
  have h1 := w.q c
  have h2 := w.stand c
  have h3 := w.log c
  unfold fR_next nextS
  simp (disch := first | assumption | omega | exact b2i_01 _ | exact Or.inl rfl | exact Or.inr rfl) only [rf_0 h, rf_1 h, rf_2 h, rf_3 h, rf_4 h, rf_5 h, rf_6 h, rf_7 h, rf_8 h, rf_9 h, rf_10 h, rf_11 h, rf_12 h, rf_13 h, rf_14 h, rf_15 h, rf_16 h, rf_17 h, rf_18 h, rf_19 h, rf_20 h, rf_21 h, rf_22 h, rf_23 h, rf_24 h, rf_25 h, rf_26 h, rf_27 h, rf_28 h, rf_29 h, rf_30 h, rf_31 h, rf_32 h, rf_33 h, rp_1 h, rp_2 h, rp_7 h, rp_19 h, rp_29 h, rg_1 h, rg_2 h, rg_3 h, rg_4 h, rg_5 h, rg_6 h, rg_7 h, rg_8 h, rg_9 h, rg_10 h, rg_11 h, rg_12 h, rg_13 h, rg_14 h, rg_15 h, rg_16 h, rg_17 h, rg_18 h, rg_19 h, rg_20 h, rg_21 h, rg_22 h, rg_23 h, rg_24 h, rg_25 h, rg_26 h, rg_27 h, rg_28 h, rs_1 h, rs_2 h, rs_3 h, rs_4 h, rs_5 h, rs_6 h, rs_7 h, rs_8 h, rs_9 h, rs_10 h, rs_11 h, rs_12 h, rs_13 h, rs_14 h, rs_15 h, rs_16 h, rs_17 h, rs_18 h, rs_19 h, rs_20 h, rs_21 h, rs_22 h, rs_23 h, rs_24 h, rs_25 h, rs_26 h, rs_27 h, rs_28 h, ro h, rI_uI, rI_uJ, rI_uR, rI_wI, rI_wJ, rJ_uJ, rJ_uI, rJ_uR, rJ_wI, rJ_wJ, rR_uR, rR_uI, rR_uJ, rR_wI, rR_wJ, qI_wI, qI_wJ, qI_uI, qI_uJ, qI_uR, qJ_wJ, qJ_wI, qJ_uI, qJ_uJ, qJ_uR, Option.bind_some, zcV_s, zcI_s, zcL_s, zrI, zrV, zrL, nI_mul8, nI_mul16, nI_mul200, nI_1, eq_self, Nat.reduceEqDiff, and_true, true_and, and_false, false_and, and_self, ite_true, ite_false, ↓reduceIte, Nat.add_zero, if_true, if_false, b2i_t, b2i_f, o2i_s, o2i_n, M.c_f0, M.c_f2, M.c_f7, M.c_f19, M.c_f29, M.r1, M.r2, M.r3, M.r4, M.r5, M.r6, M.r9, M.r11, M.r12, M.r13, M.r14, M.r15, M.r16, M.r17, M.r18, M.r19, M.r20, M.r21, M.r22, M.r23, M.r24, nI_leI, nI_ltI, nI_eq, nI_eq0, nI_eqm1, b2i_eq0, fR_isSource_eq h M w hc, fR_barrierOf_eq h M w (show c < 16 by omega), o2i_m1 (bar_b w c), nI_mul16']
  cases ho : s_over s c with
  | true => rfl
  | false =>
    cases hf : s_fr s c with
    | none =>
      cases hb : barS s c with
      | none =>
        by_cases hl : s_stand s c < (s_log s c).length
        · simp [hl, o2i, show ¬ (s_log s c).length ≤ s_stand s c by omega, nI_0]
        · cases hn : s_fin s c <;> simp [hl, o2i, show (s_log s c).length ≤ s_stand s c by omega] <;> rfl
      | some m => simp [o2i]; rfl
    | some k =>
      cases hl : s_q s c with
      | nil => simp [hdK, o2i]
      | cons z l =>
        have := M.r7 (c := c) (i := 0) (z := z) (by omega) (by rw [hl]; rfl)
        rw [Nat.add_zero] at this
        simp [hdK, o2i, this]
end PM
