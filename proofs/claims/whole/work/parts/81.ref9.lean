/-! the reference's go -/
/-- channels into a task that are held are held for one mark -/
def OneM (s : zSt) (x : Nat) : Prop := ∀ c c' m m', c < s_C s → c' < s_C s → s_to s c = x → s_to s c' = x → s_held s c = some m → s_held s c' = some m' → m = m'
def lastH (s : zSt) (x : Nat) (l : List Nat) (a : Option Nat) : Option Nat := l.foldl (fun a j => if s_to s j = x then (s_held s j).or a else a) a
theorem lastH_spec (s : zSt) (x : Nat) : ∀ (l : List Nat) (a : Option Nat), (lastH s x l a = a ∧ ∀ j ∈ l, s_to s j = x → s_held s j = none) ∨ ∃ j ∈ l, s_to s j = x ∧ ∃ m, s_held s j = some m ∧ lastH s x l a = some m := by
  intro l
  induction l with
  | nil => intro a; exact Or.inl ⟨rfl, fun j hj => by cases hj⟩
  | cons c l ih =>
    intro a
    have e1 : lastH s x (c :: l) a = lastH s x l (if s_to s c = x then (s_held s c).or a else a) := rfl
    rw [e1]
    rcases ih (if s_to s c = x then (s_held s c).or a else a) with ⟨h1, h2⟩ | ⟨j, hj, h2, m, h3, h4⟩
    · by_cases q : s_to s c = x
      · cases hh : s_held s c with
        | none =>
          left
          rw [hh, if_pos q] at h1
          rw [if_pos q]
          refine ⟨h1, fun j hj hx => ?_⟩
          rcases List.mem_cons.mp hj with rfl | hj
          · exact hh
          · exact h2 j hj hx
        | some m =>
          right
          refine ⟨c, List.mem_cons_self, q, m, hh, ?_⟩
          rw [hh, if_pos q] at h1
          rw [if_pos q]
          exact h1
      · left
        rw [h1, if_neg q]
        refine ⟨rfl, fun j hj hx => ?_⟩
        rcases List.mem_cons.mp hj with rfl | hj
        · exact absurd hx q
        · exact h2 j hj hx
    · exact Or.inr ⟨j, List.mem_cons_of_mem _ hj, h2, m, h3, h4⟩
theorem mem_ins {s : zSt} {x c : Nat} : c ∈ ins s x ↔ c < s_C s ∧ s_to s c = x := by
  unfold ins
  rw [List.mem_filter, List.mem_range, beq_iff_eq]
theorem lastH_held {s : zSt} {x : Nat} (h1 : OneM s x) : lastH s x (List.range' 0 (s_C s)) none = heldS s x := by
  rw [← List.range_eq_range']
  cases hh : heldS s x with
  | none =>
    have h2 := List.findSome?_eq_none_iff.mp hh
    rcases lastH_spec s x (List.range (s_C s)) none with ⟨h3, _⟩ | ⟨j, hj, h4, m, h5, _⟩
    · exact h3
    · have := h2 j (mem_ins.mpr ⟨List.mem_range.mp hj, h4⟩)
      rw [h5] at this
      cases this
  | some m =>
    obtain ⟨c, hc, hm⟩ := List.exists_of_findSome?_eq_some hh
    obtain ⟨hc1, hc2⟩ := mem_ins.mp hc
    rcases lastH_spec s x (List.range (s_C s)) none with ⟨_, h3⟩ | ⟨j, hj, h4, m', h5, h6⟩
    · have := h3 c (List.mem_range.mpr hc1) hc2
      rw [hm] at this
      cases this
    · rw [h6, h1 j c m' m (List.mem_range.mp hj) hc1 h4 hc2 h5 hm]
def okC (s : zSt) (x c : Nat) : Bool := !(s_to s c == x) || ((s_held s c).isSome || s_over s c)
theorem all_ins (s : zSt) (x : Nat) : ((List.range' 0 (s_C s)).all (okC s x)) = (ins s x).all (fun c => (s_held s c).isSome || s_over s c) := by
  unfold ins
  rw [← List.range_eq_range', List.all_filter]
  rfl
section PM
variable {e : pE} {t : pS} {s : zSt} {n : Nat}
set_option maxHeartbeats 2000000 in
theorem fR_go_26_eq (h : pRf e) (M : Mod t s) (w : Wf s) {x : Nat} (hx : x < 8) : ∀ (d c : Nat) (a : Option Nat) (b : Bool) (f : Nat), c + d = s_C s → d < f → ∃ g, fR_go_26 f (pv e t) n (pL e 6 0 0) (nI x) (o2i a) (b2i b) (nI c) = fR_go_26 (g + 1) (pv e t) n (pL e 6 0 0) (nI x) (o2i (lastH s x (List.range' c d) a)) (b2i (b && (List.range' c d).all (okC s x))) (nI (s_C s)) := by
  have hN1 := w.N1; have hN8 := w.N8; have hC := w.C; have hM := w.M; have hA := w.ackn
  intro d
  induction d with
  | zero =>
    intro c a b f hc hf
    obtain rfl : c = s_C s := by omega
    refine ⟨f - 1, ?_⟩
    rw [show f - 1 + 1 = f by omega]
    simp [lastH]
  | succ d ih =>
    intro c a b f hc hf
    obtain ⟨f, rfl⟩ : ∃ g, f = g + 1 := ⟨f - 1, by omega⟩
    have q : ¬ s_C s ≤ c := by omega
    have hto := w.to (c := c) (by omega)
    obtain ⟨g, hg⟩ := ih (c + 1) (if s_to s c = x then (s_held s c).or a else a) (b && okC s x c) f (by omega) (by omega)
    clear ih
    refine ⟨g, ?_⟩
    have e1 : lastH s x (List.range' c (d + 1)) a = lastH s x (List.range' (c + 1) d) (if s_to s c = x then (s_held s c).or a else a) := by rw [List.range'_succ]; rfl
    rw [e1, List.range'_succ, List.all_cons, ← Bool.and_assoc, ← hg]
    clear hg e1
    have e2 : fR_go_26 (f + 1) (pv e t) n (pL e 6 0 0) (nI x) (o2i a) (b2i b) (nI c) = if s_to s c = x then (if s_held s c = none then (if s_over s c = false then fR_go_26 f (pv e t) n (pL e 6 0 0) (nI x) (o2i a) (b2i b &&& 0) (nI (c + 1)) else fR_go_26 f (pv e t) n (pL e 6 0 0) (nI x) (o2i a) (b2i b &&& 1) (nI (c + 1))) else fR_go_26 f (pv e t) n (pL e 6 0 0) (nI x) (o2i (s_held s c)) (b2i b &&& 1) (nI (c + 1))) else fR_go_26 f (pv e t) n (pL e 6 0 0) (nI x) (o2i a) (b2i b) (nI (c + 1)) := by
      generalize hR : fR_go_26 f = R
      unfold fR_go_26
      rw [hR]
      unfold fR_go_68 fR_go_90 fR_go_95 fR_go_97
      generalize fR_go_161 zF = G1
      simp (disch := first | assumption | omega | exact b2i_01 _ | exact Or.inl rfl | exact Or.inr rfl) only [rf_0 h, rf_1 h, rf_2 h, rf_3 h, rf_4 h, rf_5 h, rf_6 h, rf_7 h, rf_8 h, rf_9 h, rf_10 h, rf_11 h, rf_12 h, rf_13 h, rf_14 h, rf_15 h, rf_16 h, rf_17 h, rf_18 h, rf_19 h, rf_20 h, rf_21 h, rf_22 h, rf_23 h, rf_24 h, rf_25 h, rf_26 h, rf_27 h, rf_28 h, rf_29 h, rf_30 h, rf_31 h, rf_32 h, rf_33 h, rp_1 h, rp_2 h, rp_7 h, rp_19 h, rp_29 h, rg_1 h, rg_2 h, rg_3 h, rg_4 h, rg_5 h, rg_6 h, rg_7 h, rg_8 h, rg_9 h, rg_10 h, rg_11 h, rg_12 h, rg_13 h, rg_14 h, rg_15 h, rg_16 h, rg_17 h, rg_18 h, rg_19 h, rg_20 h, rg_21 h, rg_22 h, rg_23 h, rg_24 h, rg_25 h, rg_26 h, rg_27 h, rg_28 h, rs_1 h, rs_2 h, rs_3 h, rs_4 h, rs_5 h, rs_6 h, rs_7 h, rs_8 h, rs_9 h, rs_10 h, rs_11 h, rs_12 h, rs_13 h, rs_14 h, rs_15 h, rs_16 h, rs_17 h, rs_18 h, rs_19 h, rs_20 h, rs_21 h, rs_22 h, rs_23 h, rs_24 h, rs_25 h, rs_26 h, rs_27 h, rs_28 h, ro h, rI_uI, rI_uJ, rI_uR, rI_wI, rI_wJ, rJ_uJ, rJ_uI, rJ_uR, rJ_wI, rJ_wJ, rR_uR, rR_uI, rR_uJ, rR_wI, rR_wJ, qI_wI, qI_wJ, qI_uI, qI_uJ, qI_uR, qJ_wJ, qJ_wI, qJ_uI, qJ_uJ, qJ_uR, Option.bind_some, zcV_s, zcI_s, zcL_s, zrI, zrV, zrL, nI_mul8, nI_mul16, nI_mul200, nI_1, eq_self, Nat.reduceEqDiff, and_true, true_and, and_false, false_and, and_self, ite_true, ite_false, ↓reduceIte, Nat.add_zero, if_true, if_false, b2i_t, b2i_f, o2i_s, o2i_n, M.c_f0, M.c_f2, M.c_f7, M.c_f19, M.c_f29, M.r1, M.r2, M.r3, M.r4, M.r5, M.r6, M.r9, M.r11, M.r12, M.r13, M.r14, M.r15, M.r16, M.r17, M.r18, M.r19, M.r20, M.r21, M.r22, M.r23, M.r24, nI_leI, nI_ltI, nI_eq, nI_eq0, nI_eqm1, b2i_eq0, q, o2i_m1 (held_b w c)]
      by_cases hq : s_to s c = x
      · cases hh : s_held s c with
        | none => cases ho : s_over s c <;> simp [hq]
        | some m => simp [hq]
      · simp [hq]
    rw [e2]
    clear e2
    generalize fR_go_26 f = R
    by_cases hq : s_to s c = x
    · have hb : (s_to s c == x) = true := by rw [hq]; exact beq_self_eq_true x
      cases hh : s_held s c with
      | none => cases ho : s_over s c <;> simp [hq, okC, hh, ho, b2i_and0, b2i_and1, b2i_f]
      | some m => simp [hq, okC, hh, b2i_and1]
    · simp [hq, okC, bqf hq]
theorem letGoS_s (s : zSt) (x c : Nat) (hq : s_to s c = x) : u_held (letGoS s x c) (fu (s_held (letGoS s x c)) c none) = letGoS s x (c + 1) := by
  have h1 : fu (s_held (letGoS s x c)) c none = fun j => if j < c + 1 ∧ s_to s j = x then none else s_held s j := by
    rw [z_letGoS_held]
    funext j
    show (if j = c then _ else if j < c ∧ s_to s j = x then none else s_held s j) = _
    by_cases q : j = c
    · subst q
      rw [if_pos rfl, if_pos ⟨by omega, hq⟩]
    · rw [if_neg q]
      by_cases r : j < c ∧ s_to s j = x
      · rw [if_pos r, if_pos ⟨by omega, r.2⟩]
      · rw [if_neg r, if_neg (fun z => r ⟨by omega, z.2⟩)]
  rw [h1]
  rfl
theorem letGoS_n (s : zSt) (x c : Nat) (hq : ¬ s_to s c = x) : letGoS s x c = letGoS s x (c + 1) := by
  unfold letGoS
  congr 1
  funext j
  by_cases r : j < c ∧ s_to s j = x
  · rw [if_pos r, if_pos ⟨by omega, r.2⟩]
  · rw [if_neg r, if_neg (fun z => r ⟨by have : j ≠ c := fun y => hq (y ▸ z.2); omega, z.2⟩)]
theorem letGoS_0 (s : zSt) (x : Nat) : letGoS s x 0 = s := by
  unfold letGoS
  rw [show (fun j => if j < 0 ∧ s_to s j = x then none else s_held s j) = s_held s from funext fun j => if_neg (by omega), uu_held]
set_option maxHeartbeats 2000000 in
theorem fR_go_161_eq (h : pRf e) (w : Wf s) {x : Nat} (hx : x < 8) : ∀ (d c : Nat) (t : pS) (f : Nat), c + d = s_C s → d < f → Mod t (letGoS s x c) → ∃ t', fR_go_161 f (pv e t) n (pL e 6 0 0) (nI x) (nI c) = some (.inl (some (.int 4)), pv e t', n) ∧ Mod t' (letGoS s x (s_C s)) ∧ Fr6 t t' := by
  have hN1 := w.N1; have hN8 := w.N8; have hC := w.C; have hM := w.M; have hA := w.ackn
  intro d
  induction d with
  | zero =>
    intro c t f hc hf M
    obtain ⟨f, rfl⟩ : ∃ g, f = g + 1 := ⟨f - 1, by omega⟩
    obtain rfl : c = s_C s := by omega
    unfold fR_go_161
    simp (disch := first | assumption | omega | exact b2i_01 _ | exact Or.inl rfl | exact Or.inr rfl) only [rf_0 h, rf_1 h, rf_2 h, rf_3 h, rf_4 h, rf_5 h, rf_6 h, rf_7 h, rf_8 h, rf_9 h, rf_10 h, rf_11 h, rf_12 h, rf_13 h, rf_14 h, rf_15 h, rf_16 h, rf_17 h, rf_18 h, rf_19 h, rf_20 h, rf_21 h, rf_22 h, rf_23 h, rf_24 h, rf_25 h, rf_26 h, rf_27 h, rf_28 h, rf_29 h, rf_30 h, rf_31 h, rf_32 h, rf_33 h, rp_1 h, rp_2 h, rp_7 h, rp_19 h, rp_29 h, rg_1 h, rg_2 h, rg_3 h, rg_4 h, rg_5 h, rg_6 h, rg_7 h, rg_8 h, rg_9 h, rg_10 h, rg_11 h, rg_12 h, rg_13 h, rg_14 h, rg_15 h, rg_16 h, rg_17 h, rg_18 h, rg_19 h, rg_20 h, rg_21 h, rg_22 h, rg_23 h, rg_24 h, rg_25 h, rg_26 h, rg_27 h, rg_28 h, rs_1 h, rs_2 h, rs_3 h, rs_4 h, rs_5 h, rs_6 h, rs_7 h, rs_8 h, rs_9 h, rs_10 h, rs_11 h, rs_12 h, rs_13 h, rs_14 h, rs_15 h, rs_16 h, rs_17 h, rs_18 h, rs_19 h, rs_20 h, rs_21 h, rs_22 h, rs_23 h, rs_24 h, rs_25 h, rs_26 h, rs_27 h, rs_28 h, ro h, rI_uI, rI_uJ, rI_uR, rI_wI, rI_wJ, rJ_uJ, rJ_uI, rJ_uR, rJ_wI, rJ_wJ, rR_uR, rR_uI, rR_uJ, rR_wI, rR_wJ, qI_wI, qI_wJ, qI_uI, qI_uJ, qI_uR, qJ_wJ, qJ_wI, qJ_uI, qJ_uJ, qJ_uR, Option.bind_some, zcV_s, zcI_s, zcL_s, zrI, zrV, zrL, nI_mul8, nI_mul16, nI_mul200, nI_1, eq_self, Nat.reduceEqDiff, and_true, true_and, and_false, false_and, and_self, ite_true, ite_false, ↓reduceIte, Nat.add_zero, if_true, if_false, b2i_t, b2i_f, o2i_s, o2i_n, M.c_f0, M.c_f2, M.c_f7, M.c_f19, M.c_f29, M.r1, M.r2, M.r3, M.r4, M.r5, M.r6, M.r9, M.r11, M.r12, M.r13, M.r14, M.r15, M.r16, M.r17, M.r18, M.r19, M.r20, M.r21, M.r22, M.r23, M.r24, nI_leI, nI_ltI, nI_eq, nI_eq0, nI_eqm1, b2i_eq0, z_letGoS_C, Nat.le_refl]
    exact ⟨t, rfl, M, Fr6.refl _⟩
  | succ d ih =>
    intro c t f hc hf M
    obtain ⟨f, rfl⟩ : ∃ g, f = g + 1 := ⟨f - 1, by omega⟩
    have q : ¬ s_C s ≤ c := by omega
    have hto := w.to (c := c) (by omega)
    have hCC : s_C (letGoS s x c) = s_C s := z_letGoS_C _ _ _
    unfold fR_go_161 fR_go_189
    simp (disch := first | assumption | omega | exact b2i_01 _ | exact Or.inl rfl | exact Or.inr rfl) only [rf_0 h, rf_1 h, rf_2 h, rf_3 h, rf_4 h, rf_5 h, rf_6 h, rf_7 h, rf_8 h, rf_9 h, rf_10 h, rf_11 h, rf_12 h, rf_13 h, rf_14 h, rf_15 h, rf_16 h, rf_17 h, rf_18 h, rf_19 h, rf_20 h, rf_21 h, rf_22 h, rf_23 h, rf_24 h, rf_25 h, rf_26 h, rf_27 h, rf_28 h, rf_29 h, rf_30 h, rf_31 h, rf_32 h, rf_33 h, rp_1 h, rp_2 h, rp_7 h, rp_19 h, rp_29 h, rg_1 h, rg_2 h, rg_3 h, rg_4 h, rg_5 h, rg_6 h, rg_7 h, rg_8 h, rg_9 h, rg_10 h, rg_11 h, rg_12 h, rg_13 h, rg_14 h, rg_15 h, rg_16 h, rg_17 h, rg_18 h, rg_19 h, rg_20 h, rg_21 h, rg_22 h, rg_23 h, rg_24 h, rg_25 h, rg_26 h, rg_27 h, rg_28 h, rs_1 h, rs_2 h, rs_3 h, rs_4 h, rs_5 h, rs_6 h, rs_7 h, rs_8 h, rs_9 h, rs_10 h, rs_11 h, rs_12 h, rs_13 h, rs_14 h, rs_15 h, rs_16 h, rs_17 h, rs_18 h, rs_19 h, rs_20 h, rs_21 h, rs_22 h, rs_23 h, rs_24 h, rs_25 h, rs_26 h, rs_27 h, rs_28 h, ro h, rI_uI, rI_uJ, rI_uR, rI_wI, rI_wJ, rJ_uJ, rJ_uI, rJ_uR, rJ_wI, rJ_wJ, rR_uR, rR_uI, rR_uJ, rR_wI, rR_wJ, qI_wI, qI_wJ, qI_uI, qI_uJ, qI_uR, qJ_wJ, qJ_wI, qJ_uI, qJ_uJ, qJ_uR, Option.bind_some, zcV_s, zcI_s, zcL_s, zrI, zrV, zrL, nI_mul8, nI_mul16, nI_mul200, nI_1, eq_self, Nat.reduceEqDiff, and_true, true_and, and_false, false_and, and_self, ite_true, ite_false, ↓reduceIte, Nat.add_zero, if_true, if_false, b2i_t, b2i_f, o2i_s, o2i_n, M.c_f0, M.c_f2, M.c_f7, M.c_f19, M.c_f29, M.r1, M.r2, M.r3, M.r4, M.r5, M.r6, M.r9, M.r11, M.r12, M.r13, M.r14, M.r15, M.r16, M.r17, M.r18, M.r19, M.r20, M.r21, M.r22, M.r23, M.r24, nI_leI, nI_ltI, nI_eq, nI_eq0, nI_eqm1, b2i_eq0, z_letGoS_C, z_letGoS_to, q, upd_fu]
    by_cases hq : s_to s c = x
    · rw [if_pos hq]
      have M1 := M.v_held (hI_fu o2i (k := c) (a := none) M.c_r15 rfl)
      rw [letGoS_s s x c hq] at M1
      obtain ⟨t3, h3, M3, F3⟩ := ih (c + 1) _ f (by omega) (by omega) M1
      exact ⟨t3, h3, M3, (Fr6.uI (Fr6.refl _)).trans F3⟩
    · rw [if_neg hq]
      rw [letGoS_n s x c hq] at M
      exact ih (c + 1) t f (by omega) (by omega) M
theorem Wf.keep (w : Wf s) {m x : Nat} (hm : m < s_M s) (hx : x < s_N s) (hA : (s_acks s).length < 1000) : Wf (keepS s m x) := by
  refine ⟨(by simp only [z_keepS_N, z_keepS_C, z_keepS_fr, z_keepS_to, z_keepS_tol, z_keepS_sum, z_keepS_rows, z_keepS_ended, z_keepS_latest, z_keepS_q, z_keepS_log, z_keepS_fin, z_keepS_stand, z_keepS_over, z_keepS_held, z_keepS_M, z_keepS_cond, z_keepS_pos, z_keepS_came, z_keepS_kept, z_keepS_kEnd, z_keepS_kSum, z_keepS_kRows, z_keepS_fails, z_keepS_taken, z_keepS_acks]; exact w.N1), (by simp only [z_keepS_N, z_keepS_C, z_keepS_fr, z_keepS_to, z_keepS_tol, z_keepS_sum, z_keepS_rows, z_keepS_ended, z_keepS_latest, z_keepS_q, z_keepS_log, z_keepS_fin, z_keepS_stand, z_keepS_over, z_keepS_held, z_keepS_M, z_keepS_cond, z_keepS_pos, z_keepS_came, z_keepS_kept, z_keepS_kEnd, z_keepS_kSum, z_keepS_kRows, z_keepS_fails, z_keepS_taken, z_keepS_acks]; exact w.N8), (by simp only [z_keepS_N, z_keepS_C, z_keepS_fr, z_keepS_to, z_keepS_tol, z_keepS_sum, z_keepS_rows, z_keepS_ended, z_keepS_latest, z_keepS_q, z_keepS_log, z_keepS_fin, z_keepS_stand, z_keepS_over, z_keepS_held, z_keepS_M, z_keepS_cond, z_keepS_pos, z_keepS_came, z_keepS_kept, z_keepS_kEnd, z_keepS_kSum, z_keepS_kRows, z_keepS_fails, z_keepS_taken, z_keepS_acks]; exact w.C), (by simp only [z_keepS_N, z_keepS_C, z_keepS_fr, z_keepS_to, z_keepS_tol, z_keepS_sum, z_keepS_rows, z_keepS_ended, z_keepS_latest, z_keepS_q, z_keepS_log, z_keepS_fin, z_keepS_stand, z_keepS_over, z_keepS_held, z_keepS_M, z_keepS_cond, z_keepS_pos, z_keepS_came, z_keepS_kept, z_keepS_kEnd, z_keepS_kSum, z_keepS_kRows, z_keepS_fails, z_keepS_taken, z_keepS_acks]; exact w.M), (by simp only [z_keepS_N, z_keepS_C, z_keepS_fr, z_keepS_to, z_keepS_tol, z_keepS_sum, z_keepS_rows, z_keepS_ended, z_keepS_latest, z_keepS_q, z_keepS_log, z_keepS_fin, z_keepS_stand, z_keepS_over, z_keepS_held, z_keepS_M, z_keepS_cond, z_keepS_pos, z_keepS_came, z_keepS_kept, z_keepS_kEnd, z_keepS_kSum, z_keepS_kRows, z_keepS_fails, z_keepS_taken, z_keepS_acks]; exact fun c => w.to), (by simp only [z_keepS_N, z_keepS_C, z_keepS_fr, z_keepS_to, z_keepS_tol, z_keepS_sum, z_keepS_rows, z_keepS_ended, z_keepS_latest, z_keepS_q, z_keepS_log, z_keepS_fin, z_keepS_stand, z_keepS_over, z_keepS_held, z_keepS_M, z_keepS_cond, z_keepS_pos, z_keepS_came, z_keepS_kept, z_keepS_kEnd, z_keepS_kSum, z_keepS_kRows, z_keepS_fails, z_keepS_taken, z_keepS_acks]; exact fun c k => w.fr), (by simp only [z_keepS_N, z_keepS_C, z_keepS_fr, z_keepS_to, z_keepS_tol, z_keepS_sum, z_keepS_rows, z_keepS_ended, z_keepS_latest, z_keepS_q, z_keepS_log, z_keepS_fin, z_keepS_stand, z_keepS_over, z_keepS_held, z_keepS_M, z_keepS_cond, z_keepS_pos, z_keepS_came, z_keepS_kept, z_keepS_kEnd, z_keepS_kSum, z_keepS_kRows, z_keepS_fails, z_keepS_taken, z_keepS_acks]; exact w.q), (by simp only [z_keepS_N, z_keepS_C, z_keepS_fr, z_keepS_to, z_keepS_tol, z_keepS_sum, z_keepS_rows, z_keepS_ended, z_keepS_latest, z_keepS_q, z_keepS_log, z_keepS_fin, z_keepS_stand, z_keepS_over, z_keepS_held, z_keepS_M, z_keepS_cond, z_keepS_pos, z_keepS_came, z_keepS_kept, z_keepS_kEnd, z_keepS_kSum, z_keepS_kRows, z_keepS_fails, z_keepS_taken, z_keepS_acks]; exact w.log), (by simp only [z_keepS_N, z_keepS_C, z_keepS_fr, z_keepS_to, z_keepS_tol, z_keepS_sum, z_keepS_rows, z_keepS_ended, z_keepS_latest, z_keepS_q, z_keepS_log, z_keepS_fin, z_keepS_stand, z_keepS_over, z_keepS_held, z_keepS_M, z_keepS_cond, z_keepS_pos, z_keepS_came, z_keepS_kept, z_keepS_kEnd, z_keepS_kSum, z_keepS_kRows, z_keepS_fails, z_keepS_taken, z_keepS_acks]; exact w.stand), (by simp only [z_keepS_N, z_keepS_C, z_keepS_fr, z_keepS_to, z_keepS_tol, z_keepS_sum, z_keepS_rows, z_keepS_ended, z_keepS_latest, z_keepS_q, z_keepS_log, z_keepS_fin, z_keepS_stand, z_keepS_over, z_keepS_held, z_keepS_M, z_keepS_cond, z_keepS_pos, z_keepS_came, z_keepS_kept, z_keepS_kEnd, z_keepS_kSum, z_keepS_kRows, z_keepS_fails, z_keepS_taken, z_keepS_acks]; exact fun c k => w.held), (by simp only [z_keepS_N, z_keepS_C, z_keepS_fr, z_keepS_to, z_keepS_tol, z_keepS_sum, z_keepS_rows, z_keepS_ended, z_keepS_latest, z_keepS_q, z_keepS_log, z_keepS_fin, z_keepS_stand, z_keepS_over, z_keepS_held, z_keepS_M, z_keepS_cond, z_keepS_pos, z_keepS_came, z_keepS_kept, z_keepS_kEnd, z_keepS_kSum, z_keepS_kRows, z_keepS_fails, z_keepS_taken, z_keepS_acks]; exact fun x k => w.latest), ?_, ?_, (by simp only [z_keepS_N, z_keepS_C, z_keepS_fr, z_keepS_to, z_keepS_tol, z_keepS_sum, z_keepS_rows, z_keepS_ended, z_keepS_latest, z_keepS_q, z_keepS_log, z_keepS_fin, z_keepS_stand, z_keepS_over, z_keepS_held, z_keepS_M, z_keepS_cond, z_keepS_pos, z_keepS_came, z_keepS_kept, z_keepS_kEnd, z_keepS_kSum, z_keepS_kRows, z_keepS_fails, z_keepS_taken, z_keepS_acks]; exact w.cond), (by simp only [z_keepS_N, z_keepS_C, z_keepS_fr, z_keepS_to, z_keepS_tol, z_keepS_sum, z_keepS_rows, z_keepS_ended, z_keepS_latest, z_keepS_q, z_keepS_log, z_keepS_fin, z_keepS_stand, z_keepS_over, z_keepS_held, z_keepS_M, z_keepS_cond, z_keepS_pos, z_keepS_came, z_keepS_kept, z_keepS_kEnd, z_keepS_kSum, z_keepS_kRows, z_keepS_fails, z_keepS_taken, z_keepS_acks]; exact w.pos), (by simp only [z_keepS_N, z_keepS_C, z_keepS_fr, z_keepS_to, z_keepS_tol, z_keepS_sum, z_keepS_rows, z_keepS_ended, z_keepS_latest, z_keepS_q, z_keepS_log, z_keepS_fin, z_keepS_stand, z_keepS_over, z_keepS_held, z_keepS_M, z_keepS_cond, z_keepS_pos, z_keepS_came, z_keepS_kept, z_keepS_kEnd, z_keepS_kSum, z_keepS_kRows, z_keepS_fails, z_keepS_taken, z_keepS_acks]; exact fun c z => w.kin), (by simp only [z_keepS_N, z_keepS_C, z_keepS_fr, z_keepS_to, z_keepS_tol, z_keepS_sum, z_keepS_rows, z_keepS_ended, z_keepS_latest, z_keepS_q, z_keepS_log, z_keepS_fin, z_keepS_stand, z_keepS_over, z_keepS_held, z_keepS_M, z_keepS_cond, z_keepS_pos, z_keepS_came, z_keepS_kept, z_keepS_kEnd, z_keepS_kSum, z_keepS_kRows, z_keepS_fails, z_keepS_taken, z_keepS_acks]; exact fun c z => w.bar), (by simp only [z_keepS_N, z_keepS_C, z_keepS_fr, z_keepS_to, z_keepS_tol, z_keepS_sum, z_keepS_rows, z_keepS_ended, z_keepS_latest, z_keepS_q, z_keepS_log, z_keepS_fin, z_keepS_stand, z_keepS_over, z_keepS_held, z_keepS_M, z_keepS_cond, z_keepS_pos, z_keepS_came, z_keepS_kept, z_keepS_kEnd, z_keepS_kSum, z_keepS_kRows, z_keepS_fails, z_keepS_taken, z_keepS_acks]; exact fun c => w.src)⟩
  · intro z hz
    rw [z_keepS_acks] at hz
    rw [z_keepS_M, z_keepS_N]
    rcases List.mem_append.mp hz with hz | hz
    · exact w.acks hz
    · rw [List.mem_singleton.mp hz]; exact ⟨hm, hx⟩
  · rw [z_keepS_acks, List.length_append, List.length_singleton]; omega
theorem keepAll_s (x k : Nat) (s : zSt) : keepAll x (k + 1) s = if s_cond (keepAll x k s) k = 0 ∧ s_kept (keepAll x k s) k x = false then keepS (keepAll x k s) k x else keepAll x k s := rfl
theorem kA_M (s : zSt) (x k : Nat) : s_M (keepAll x k s) = s_M s := by
  induction k with
  | zero => rfl
  | succ k ih =>
    rw [keepAll_s]
    split
    · rw [z_keepS_M]; exact ih
    · exact ih
theorem kA_N (s : zSt) (x k : Nat) : s_N (keepAll x k s) = s_N s := by
  induction k with
  | zero => rfl
  | succ k ih =>
    rw [keepAll_s]
    split
    · rw [z_keepS_N]; exact ih
    · exact ih
theorem kA_a (s : zSt) (x k : Nat) : (s_acks (keepAll x k s)).length ≤ (s_acks s).length + k := by
  induction k with
  | zero => exact Nat.le_refl _
  | succ k ih =>
    rw [keepAll_s]
    split
    · rw [z_keepS_acks, List.length_append, List.length_singleton]; omega
    · omega
theorem Wf.kA (w : Wf s) {x : Nat} (hx : x < s_N s) (hA : (s_acks s).length ≤ 900) {k : Nat} (hk : k ≤ s_M s) : Wf (keepAll x k s) := by
  induction k with
  | zero => exact w
  | succ k ih =>
    have w1 := ih (by omega)
    rw [keepAll_s]
    split
    · refine w1.keep (by rw [kA_M]; omega) (by rw [kA_N]; exact hx) ?_
      have := kA_a s x k
      have := w.M
      omega
    · exact w1
set_option maxHeartbeats 2000000 in
theorem fR_go_218_eq (h : pRf e) (w : Wf s) {x : Nat} (hx : x < s_N s) (hA : (s_acks s).length ≤ 900) : ∀ (d c : Nat) (t : pS) (f : Nat), c + d = s_M s → d < f → Mod t (keepAll x c s) → ∃ t', fR_go_218 f (pv e t) n (pL e 6 0 0) (nI x) (nI c) = some (.inl (some (.int 6)), pv e t', n) ∧ Mod t' (keepAll x (s_M s) s) ∧ Fr6 t t' := by
  have hN8 := w.N8; have hM := w.M
  intro d
  induction d with
  | zero =>
    intro c t f hc hf M
    obtain ⟨f, rfl⟩ : ∃ g, f = g + 1 := ⟨f - 1, by omega⟩
    obtain rfl : c = s_M s := by omega
    unfold fR_go_218
    simp (disch := first | assumption | omega | exact b2i_01 _ | exact Or.inl rfl | exact Or.inr rfl) only [rf_0 h, rf_1 h, rf_2 h, rf_3 h, rf_4 h, rf_5 h, rf_6 h, rf_7 h, rf_8 h, rf_9 h, rf_10 h, rf_11 h, rf_12 h, rf_13 h, rf_14 h, rf_15 h, rf_16 h, rf_17 h, rf_18 h, rf_19 h, rf_20 h, rf_21 h, rf_22 h, rf_23 h, rf_24 h, rf_25 h, rf_26 h, rf_27 h, rf_28 h, rf_29 h, rf_30 h, rf_31 h, rf_32 h, rf_33 h, rp_1 h, rp_2 h, rp_7 h, rp_19 h, rp_29 h, rg_1 h, rg_2 h, rg_3 h, rg_4 h, rg_5 h, rg_6 h, rg_7 h, rg_8 h, rg_9 h, rg_10 h, rg_11 h, rg_12 h, rg_13 h, rg_14 h, rg_15 h, rg_16 h, rg_17 h, rg_18 h, rg_19 h, rg_20 h, rg_21 h, rg_22 h, rg_23 h, rg_24 h, rg_25 h, rg_26 h, rg_27 h, rg_28 h, rs_1 h, rs_2 h, rs_3 h, rs_4 h, rs_5 h, rs_6 h, rs_7 h, rs_8 h, rs_9 h, rs_10 h, rs_11 h, rs_12 h, rs_13 h, rs_14 h, rs_15 h, rs_16 h, rs_17 h, rs_18 h, rs_19 h, rs_20 h, rs_21 h, rs_22 h, rs_23 h, rs_24 h, rs_25 h, rs_26 h, rs_27 h, rs_28 h, ro h, rI_uI, rI_uJ, rI_uR, rI_wI, rI_wJ, rJ_uJ, rJ_uI, rJ_uR, rJ_wI, rJ_wJ, rR_uR, rR_uI, rR_uJ, rR_wI, rR_wJ, qI_wI, qI_wJ, qI_uI, qI_uJ, qI_uR, qJ_wJ, qJ_wI, qJ_uI, qJ_uJ, qJ_uR, Option.bind_some, zcV_s, zcI_s, zcL_s, zrI, zrV, zrL, nI_mul8, nI_mul16, nI_mul200, nI_1, eq_self, Nat.reduceEqDiff, and_true, true_and, and_false, false_and, and_self, ite_true, ite_false, ↓reduceIte, Nat.add_zero, if_true, if_false, b2i_t, b2i_f, o2i_s, o2i_n, M.c_f0, M.c_f2, M.c_f7, M.c_f19, M.c_f29, M.r1, M.r2, M.r3, M.r4, M.r5, M.r6, M.r9, M.r11, M.r12, M.r13, M.r14, M.r15, M.r16, M.r17, M.r18, M.r19, M.r20, M.r21, M.r22, M.r23, M.r24, nI_leI, nI_ltI, nI_eq, nI_eq0, nI_eqm1, b2i_eq0, kA_M, Nat.le_refl]
    exact ⟨t, rfl, M, Fr6.refl _⟩
  | succ d ih =>
    intro c t f hc hf M
    obtain ⟨f, rfl⟩ : ∃ g, f = g + 1 := ⟨f - 1, by omega⟩
    have q : ¬ s_M s ≤ c := by omega
    have w2 : Wf (keepAll x c s) := w.kA hx hA (by omega)
    have hcd := w2.cond c
    have hA2 := kA_a s x c
    have hMM : s_M (keepAll x c s) = s_M s := kA_M _ _ _
    obtain ⟨t1, h1, M1, F1⟩ := fR_keep_eq (n := n) (m := c) (x := x) h M (by omega) (by omega) (by omega)
    unfold fR_go_218 fR_go_259
    simp (disch := first | assumption | omega | exact b2i_01 _ | exact Or.inl rfl | exact Or.inr rfl) only [rf_0 h, rf_1 h, rf_2 h, rf_3 h, rf_4 h, rf_5 h, rf_6 h, rf_7 h, rf_8 h, rf_9 h, rf_10 h, rf_11 h, rf_12 h, rf_13 h, rf_14 h, rf_15 h, rf_16 h, rf_17 h, rf_18 h, rf_19 h, rf_20 h, rf_21 h, rf_22 h, rf_23 h, rf_24 h, rf_25 h, rf_26 h, rf_27 h, rf_28 h, rf_29 h, rf_30 h, rf_31 h, rf_32 h, rf_33 h, rp_1 h, rp_2 h, rp_7 h, rp_19 h, rp_29 h, rg_1 h, rg_2 h, rg_3 h, rg_4 h, rg_5 h, rg_6 h, rg_7 h, rg_8 h, rg_9 h, rg_10 h, rg_11 h, rg_12 h, rg_13 h, rg_14 h, rg_15 h, rg_16 h, rg_17 h, rg_18 h, rg_19 h, rg_20 h, rg_21 h, rg_22 h, rg_23 h, rg_24 h, rg_25 h, rg_26 h, rg_27 h, rg_28 h, rs_1 h, rs_2 h, rs_3 h, rs_4 h, rs_5 h, rs_6 h, rs_7 h, rs_8 h, rs_9 h, rs_10 h, rs_11 h, rs_12 h, rs_13 h, rs_14 h, rs_15 h, rs_16 h, rs_17 h, rs_18 h, rs_19 h, rs_20 h, rs_21 h, rs_22 h, rs_23 h, rs_24 h, rs_25 h, rs_26 h, rs_27 h, rs_28 h, ro h, rI_uI, rI_uJ, rI_uR, rI_wI, rI_wJ, rJ_uJ, rJ_uI, rJ_uR, rJ_wI, rJ_wJ, rR_uR, rR_uI, rR_uJ, rR_wI, rR_wJ, qI_wI, qI_wJ, qI_uI, qI_uJ, qI_uR, qJ_wJ, qJ_wI, qJ_uI, qJ_uJ, qJ_uR, Option.bind_some, zcV_s, zcI_s, zcL_s, zrI, zrV, zrL, nI_mul8, nI_mul16, nI_mul200, nI_1, eq_self, Nat.reduceEqDiff, and_true, true_and, and_false, false_and, and_self, ite_true, ite_false, ↓reduceIte, Nat.add_zero, if_true, if_false, b2i_t, b2i_f, o2i_s, o2i_n, M.c_f0, M.c_f2, M.c_f7, M.c_f19, M.c_f29, M.r1, M.r2, M.r3, M.r4, M.r5, M.r6, M.r9, M.r11, M.r12, M.r13, M.r14, M.r15, M.r16, M.r17, M.r18, M.r19, M.r20, M.r21, M.r22, M.r23, M.r24, nI_leI, nI_ltI, nI_eq, nI_eq0, nI_eqm1, b2i_eq0, kA_M, q, h1]
    by_cases hq : s_cond (keepAll x c s) c = 0
    · rw [if_pos hq]
      cases hq2 : s_kept (keepAll x c s) c x with
      | false =>
        rw [if_pos rfl]
        obtain ⟨t3, h3, M3, F3⟩ := ih (c + 1) t1 f (by omega) (by omega) (by rw [keepAll_s, if_pos ⟨hq, hq2⟩]; exact M1)
        exact ⟨t3, h3, M3, F1.trans F3⟩
      | true =>
        rw [if_neg (by decide)]
        exact ih (c + 1) t f (by omega) (by omega) (by rw [keepAll_s, if_neg (fun z => by rw [hq2] at z; cases z.2)]; exact M)
    · rw [if_neg hq]
      exact ih (c + 1) t f (by omega) (by omega) (by rw [keepAll_s, if_neg (fun z => hq z.1)]; exact M)
def pkI (s : zSt) (x k : Nat) : Nat := (match s_latest s x with | none => k | some c => c + 1 + k) % s_C s
def pkP (s : zSt) (x c : Nat) : Bool := s_to s c == x && (s_held s c).isNone && (nextS s c).isSome
theorem pickS_eq (s : zSt) (x : Nat) : pickS s x = ((List.range' 0 (s_C s)).map (pkI s x)).find? (pkP s x) := by
  rw [← List.range_eq_range']; rfl
def pickT (s : zSt) (x : Nat) (o : Option Nat) : Nat × zSt := match o with
  | none => (0, s)
  | some c => takeS s x c
theorem lat_add (w : Wf s) (x k : Nat) (hC : 0 < s_C s) (hk : k < s_C s) : (o2i (s_latest s x) + nI (k + 1)) - (o2i (s_latest s x) + nI (k + 1)) / nI (s_C s) * nI (s_C s) = nI (pkI s x k) := by
  have hC16 := w.C
  have e1 : o2i (s_latest s x) + nI (k + 1) = nI (match s_latest s x with | none => k | some c => c + 1 + k) := by
    cases hl : s_latest s x with
    | none =>
      show (-1 : Int32) + nI (k + 1) = nI k
      rw [Int32.add_comm, pk_m1]
    | some c =>
      show nI c + nI (k + 1) = nI (c + 1 + k)
      rw [nI_add]
      congr 1
      omega
  rw [e1, pk_rem ?_ hC (by omega)]
  · rfl
  · cases hl : s_latest s x with
    | none => show k < _; omega
    | some c =>
      have := w.latest hl
      show c + 1 + k < _
      omega
set_option maxHeartbeats 2000000 in
theorem fR_go_271_eq (h : pRf e) (M : Mod t s) (w : Wf s) {x : Nat} (hx : x < 8) : ∀ (d c : Nat) (f : Nat), c + d = s_C s → d < f → ∃ t', fR_go_271 f (pv e t) n (pL e 6 0 0) (nI x) (nI (c + 1)) = some (.inl (some (.int (nI (pickT s x (((List.range' c d).map (pkI s x)).find? (pkP s x))).1))), pv e t', n) ∧ Mod t' (pickT s x (((List.range' c d).map (pkI s x)).find? (pkP s x))).2 ∧ Fr6 t t' := by
  have hN1 := w.N1; have hN8 := w.N8; have hC := w.C; have hM := w.M; have hA := w.ackn
  intro d
  induction d with
  | zero =>
    intro c f hc hf
    obtain ⟨f, rfl⟩ : ∃ g, f = g + 1 := ⟨f - 1, by omega⟩
    have q : s_C s < c + 1 := by omega
    unfold fR_go_271
    simp (disch := first | assumption | omega | exact b2i_01 _ | exact Or.inl rfl | exact Or.inr rfl) only [rf_0 h, rf_1 h, rf_2 h, rf_3 h, rf_4 h, rf_5 h, rf_6 h, rf_7 h, rf_8 h, rf_9 h, rf_10 h, rf_11 h, rf_12 h, rf_13 h, rf_14 h, rf_15 h, rf_16 h, rf_17 h, rf_18 h, rf_19 h, rf_20 h, rf_21 h, rf_22 h, rf_23 h, rf_24 h, rf_25 h, rf_26 h, rf_27 h, rf_28 h, rf_29 h, rf_30 h, rf_31 h, rf_32 h, rf_33 h, rp_1 h, rp_2 h, rp_7 h, rp_19 h, rp_29 h, rg_1 h, rg_2 h, rg_3 h, rg_4 h, rg_5 h, rg_6 h, rg_7 h, rg_8 h, rg_9 h, rg_10 h, rg_11 h, rg_12 h, rg_13 h, rg_14 h, rg_15 h, rg_16 h, rg_17 h, rg_18 h, rg_19 h, rg_20 h, rg_21 h, rg_22 h, rg_23 h, rg_24 h, rg_25 h, rg_26 h, rg_27 h, rg_28 h, rs_1 h, rs_2 h, rs_3 h, rs_4 h, rs_5 h, rs_6 h, rs_7 h, rs_8 h, rs_9 h, rs_10 h, rs_11 h, rs_12 h, rs_13 h, rs_14 h, rs_15 h, rs_16 h, rs_17 h, rs_18 h, rs_19 h, rs_20 h, rs_21 h, rs_22 h, rs_23 h, rs_24 h, rs_25 h, rs_26 h, rs_27 h, rs_28 h, ro h, rI_uI, rI_uJ, rI_uR, rI_wI, rI_wJ, rJ_uJ, rJ_uI, rJ_uR, rJ_wI, rJ_wJ, rR_uR, rR_uI, rR_uJ, rR_wI, rR_wJ, qI_wI, qI_wJ, qI_uI, qI_uJ, qI_uR, qJ_wJ, qJ_wI, qJ_uI, qJ_uJ, qJ_uR, Option.bind_some, zcV_s, zcI_s, zcL_s, zrI, zrV, zrL, nI_mul8, nI_mul16, nI_mul200, nI_1, eq_self, Nat.reduceEqDiff, and_true, true_and, and_false, false_and, and_self, ite_true, ite_false, ↓reduceIte, Nat.add_zero, if_true, if_false, b2i_t, b2i_f, o2i_s, o2i_n, M.c_f0, M.c_f2, M.c_f7, M.c_f19, M.c_f29, M.r1, M.r2, M.r3, M.r4, M.r5, M.r6, M.r9, M.r11, M.r12, M.r13, M.r14, M.r15, M.r16, M.r17, M.r18, M.r19, M.r20, M.r21, M.r22, M.r23, M.r24, nI_leI, nI_ltI, nI_eq, nI_eq0, nI_eqm1, b2i_eq0, q]
    exact ⟨t, rfl, M, Fr6.refl _⟩
  | succ d ih =>
    intro c f hc hf
    obtain ⟨f, rfl⟩ : ∃ g, f = g + 1 := ⟨f - 1, by omega⟩
    have q : ¬ s_C s < c + 1 := by omega
    have hC0 : ¬ s_C s = 0 := by omega
    have hp : pkI s x c < s_C s := Nat.mod_lt _ (by omega)
    have hto := w.to (c := pkI s x c) hp
    have ih2 := ih (c + 1) f (by omega) (by omega)
    clear ih
    have hnb : ∀ k, nextS s (pkI s x c) = some k → k < 2 ^ 31 := fun k hk => by have := nextS_le w hk; omega
    unfold fR_go_271 fR_go_336
    simp (disch := first | assumption | omega | exact b2i_01 _ | exact Or.inl rfl | exact Or.inr rfl) only [rf_0 h, rf_1 h, rf_2 h, rf_3 h, rf_4 h, rf_5 h, rf_6 h, rf_7 h, rf_8 h, rf_9 h, rf_10 h, rf_11 h, rf_12 h, rf_13 h, rf_14 h, rf_15 h, rf_16 h, rf_17 h, rf_18 h, rf_19 h, rf_20 h, rf_21 h, rf_22 h, rf_23 h, rf_24 h, rf_25 h, rf_26 h, rf_27 h, rf_28 h, rf_29 h, rf_30 h, rf_31 h, rf_32 h, rf_33 h, rp_1 h, rp_2 h, rp_7 h, rp_19 h, rp_29 h, rg_1 h, rg_2 h, rg_3 h, rg_4 h, rg_5 h, rg_6 h, rg_7 h, rg_8 h, rg_9 h, rg_10 h, rg_11 h, rg_12 h, rg_13 h, rg_14 h, rg_15 h, rg_16 h, rg_17 h, rg_18 h, rg_19 h, rg_20 h, rg_21 h, rg_22 h, rg_23 h, rg_24 h, rg_25 h, rg_26 h, rg_27 h, rg_28 h, rs_1 h, rs_2 h, rs_3 h, rs_4 h, rs_5 h, rs_6 h, rs_7 h, rs_8 h, rs_9 h, rs_10 h, rs_11 h, rs_12 h, rs_13 h, rs_14 h, rs_15 h, rs_16 h, rs_17 h, rs_18 h, rs_19 h, rs_20 h, rs_21 h, rs_22 h, rs_23 h, rs_24 h, rs_25 h, rs_26 h, rs_27 h, rs_28 h, ro h, rI_uI, rI_uJ, rI_uR, rI_wI, rI_wJ, rJ_uJ, rJ_uI, rJ_uR, rJ_wI, rJ_wJ, rR_uR, rR_uI, rR_uJ, rR_wI, rR_wJ, qI_wI, qI_wJ, qI_uI, qI_uJ, qI_uR, qJ_wJ, qJ_wI, qJ_uI, qJ_uJ, qJ_uR, Option.bind_some, zcV_s, zcI_s, zcL_s, zrI, zrV, zrL, nI_mul8, nI_mul16, nI_mul200, nI_1, eq_self, Nat.reduceEqDiff, and_true, true_and, and_false, false_and, and_self, ite_true, ite_false, ↓reduceIte, Nat.add_zero, if_true, if_false, b2i_t, b2i_f, o2i_s, o2i_n, M.c_f0, M.c_f2, M.c_f7, M.c_f19, M.c_f29, M.r1, M.r2, M.r3, M.r4, M.r5, M.r6, M.r9, M.r11, M.r12, M.r13, M.r14, M.r15, M.r16, M.r17, M.r18, M.r19, M.r20, M.r21, M.r22, M.r23, M.r24, nI_leI, nI_ltI, nI_eq, nI_eq0, nI_eqm1, b2i_eq0, q, hC0, lat_add w x c (by omega) (by omega), fR_next_eq h M w hp, o2i_m1 (held_b w (pkI s x c)), o2i_m1 hnb]
    rw [List.range'_succ, List.map_cons, List.find?_cons]
    by_cases q1 : s_to s (pkI s x c) = x
    · rw [if_pos q1]
      by_cases q2 : s_held s (pkI s x c) = none
      · rw [if_pos q2]
        cases q3 : nextS s (pkI s x c) with
        | none =>
          rw [if_pos rfl]
          have : pkP s x (pkI s x c) = false := by unfold pkP; rw [q3]; simp
          rw [this]
          exact ih2
        | some k =>
          rw [if_neg (by simp)]
          have : pkP s x (pkI s x c) = true := by unfold pkP; rw [q3, q1, q2]; simp
          rw [this]
          obtain ⟨t3, h3, M3, F3⟩ := fR_take_eq (n := n) h M w hx hp q3
          refine ⟨t3, ?_, M3, F3⟩
          simp (disch := first | assumption | omega | exact b2i_01 _ | exact Or.inl rfl | exact Or.inr rfl) only [rf_0 h, rf_1 h, rf_2 h, rf_3 h, rf_4 h, rf_5 h, rf_6 h, rf_7 h, rf_8 h, rf_9 h, rf_10 h, rf_11 h, rf_12 h, rf_13 h, rf_14 h, rf_15 h, rf_16 h, rf_17 h, rf_18 h, rf_19 h, rf_20 h, rf_21 h, rf_22 h, rf_23 h, rf_24 h, rf_25 h, rf_26 h, rf_27 h, rf_28 h, rf_29 h, rf_30 h, rf_31 h, rf_32 h, rf_33 h, rp_1 h, rp_2 h, rp_7 h, rp_19 h, rp_29 h, rg_1 h, rg_2 h, rg_3 h, rg_4 h, rg_5 h, rg_6 h, rg_7 h, rg_8 h, rg_9 h, rg_10 h, rg_11 h, rg_12 h, rg_13 h, rg_14 h, rg_15 h, rg_16 h, rg_17 h, rg_18 h, rg_19 h, rg_20 h, rg_21 h, rg_22 h, rg_23 h, rg_24 h, rg_25 h, rg_26 h, rg_27 h, rg_28 h, rs_1 h, rs_2 h, rs_3 h, rs_4 h, rs_5 h, rs_6 h, rs_7 h, rs_8 h, rs_9 h, rs_10 h, rs_11 h, rs_12 h, rs_13 h, rs_14 h, rs_15 h, rs_16 h, rs_17 h, rs_18 h, rs_19 h, rs_20 h, rs_21 h, rs_22 h, rs_23 h, rs_24 h, rs_25 h, rs_26 h, rs_27 h, rs_28 h, ro h, rI_uI, rI_uJ, rI_uR, rI_wI, rI_wJ, rJ_uJ, rJ_uI, rJ_uR, rJ_wI, rJ_wJ, rR_uR, rR_uI, rR_uJ, rR_wI, rR_wJ, qI_wI, qI_wJ, qI_uI, qI_uJ, qI_uR, qJ_wJ, qJ_wI, qJ_uI, qJ_uJ, qJ_uR, Option.bind_some, zcV_s, zcI_s, zcL_s, zrI, zrV, zrL, nI_mul8, nI_mul16, nI_mul200, nI_1, eq_self, Nat.reduceEqDiff, and_true, true_and, and_false, false_and, and_self, ite_true, ite_false, ↓reduceIte, Nat.add_zero, if_true, if_false, b2i_t, b2i_f, o2i_s, o2i_n, nI_leI, nI_ltI, nI_eq, nI_eq0, nI_eqm1, b2i_eq0, h3]
          rfl
      · rw [if_neg q2]
        have : pkP s x (pkI s x c) = false := by
          unfold pkP
          cases hh : s_held s (pkI s x c) with
          | none => exact absurd hh q2
          | some m => simp
        rw [this]
        exact ih2
    · rw [if_neg q1]
      have : pkP s x (pkI s x c) = false := by unfold pkP; rw [bqf q1]; rfl
      rw [this]
      exact ih2
theorem giveS_fr (s : zSt) (x k : Nat) (v : Int64) : s_ended (giveS s x k v) = s_ended s := z_giveS_ended _ _ _ _
theorem Wf.give (w : Wf s) {x k : Nat} {v : Int64} (hk : k ≤ 2) (hq : ∀ c, c < s_C s → s_fr s c = some x → (s_q s c).length ≤ 11) (hb : k = 1 → ∃ m, m < s_M s ∧ v = lN m) : Wf (giveS s x k v) := by
  have hm : ∀ c z, z ∈ s_q (giveS s x k v) c → z ∈ s_q s c ∨ z = (k, v) := by
    intro c z hz
    rw [z_giveS_q] at hz
    have hz : z ∈ (if c < s_C s ∧ s_fr s c = some x then s_q s c ++ [(k, v)] else s_q s c) := hz
    split at hz
    · rcases List.mem_append.mp hz with hz | hz
      · exact Or.inl hz
      · exact Or.inr (List.mem_singleton.mp hz)
    · exact Or.inl hz
  refine ⟨(by simp only [z_giveS_N, z_giveS_C, z_giveS_fr, z_giveS_to, z_giveS_tol, z_giveS_sum, z_giveS_rows, z_giveS_ended, z_giveS_latest, z_giveS_q, z_giveS_log, z_giveS_fin, z_giveS_stand, z_giveS_over, z_giveS_held, z_giveS_M, z_giveS_cond, z_giveS_pos, z_giveS_came, z_giveS_kept, z_giveS_kEnd, z_giveS_kSum, z_giveS_kRows, z_giveS_fails, z_giveS_taken, z_giveS_acks]; exact w.N1), (by simp only [z_giveS_N, z_giveS_C, z_giveS_fr, z_giveS_to, z_giveS_tol, z_giveS_sum, z_giveS_rows, z_giveS_ended, z_giveS_latest, z_giveS_q, z_giveS_log, z_giveS_fin, z_giveS_stand, z_giveS_over, z_giveS_held, z_giveS_M, z_giveS_cond, z_giveS_pos, z_giveS_came, z_giveS_kept, z_giveS_kEnd, z_giveS_kSum, z_giveS_kRows, z_giveS_fails, z_giveS_taken, z_giveS_acks]; exact w.N8), (by simp only [z_giveS_N, z_giveS_C, z_giveS_fr, z_giveS_to, z_giveS_tol, z_giveS_sum, z_giveS_rows, z_giveS_ended, z_giveS_latest, z_giveS_q, z_giveS_log, z_giveS_fin, z_giveS_stand, z_giveS_over, z_giveS_held, z_giveS_M, z_giveS_cond, z_giveS_pos, z_giveS_came, z_giveS_kept, z_giveS_kEnd, z_giveS_kSum, z_giveS_kRows, z_giveS_fails, z_giveS_taken, z_giveS_acks]; exact w.C), (by simp only [z_giveS_N, z_giveS_C, z_giveS_fr, z_giveS_to, z_giveS_tol, z_giveS_sum, z_giveS_rows, z_giveS_ended, z_giveS_latest, z_giveS_q, z_giveS_log, z_giveS_fin, z_giveS_stand, z_giveS_over, z_giveS_held, z_giveS_M, z_giveS_cond, z_giveS_pos, z_giveS_came, z_giveS_kept, z_giveS_kEnd, z_giveS_kSum, z_giveS_kRows, z_giveS_fails, z_giveS_taken, z_giveS_acks]; exact w.M), (by simp only [z_giveS_N, z_giveS_C, z_giveS_fr, z_giveS_to, z_giveS_tol, z_giveS_sum, z_giveS_rows, z_giveS_ended, z_giveS_latest, z_giveS_q, z_giveS_log, z_giveS_fin, z_giveS_stand, z_giveS_over, z_giveS_held, z_giveS_M, z_giveS_cond, z_giveS_pos, z_giveS_came, z_giveS_kept, z_giveS_kEnd, z_giveS_kSum, z_giveS_kRows, z_giveS_fails, z_giveS_taken, z_giveS_acks]; exact fun c => w.to), (by simp only [z_giveS_N, z_giveS_C, z_giveS_fr, z_giveS_to, z_giveS_tol, z_giveS_sum, z_giveS_rows, z_giveS_ended, z_giveS_latest, z_giveS_q, z_giveS_log, z_giveS_fin, z_giveS_stand, z_giveS_over, z_giveS_held, z_giveS_M, z_giveS_cond, z_giveS_pos, z_giveS_came, z_giveS_kept, z_giveS_kEnd, z_giveS_kSum, z_giveS_kRows, z_giveS_fails, z_giveS_taken, z_giveS_acks]; exact fun c k => w.fr), ?_, (by simp only [z_giveS_N, z_giveS_C, z_giveS_fr, z_giveS_to, z_giveS_tol, z_giveS_sum, z_giveS_rows, z_giveS_ended, z_giveS_latest, z_giveS_q, z_giveS_log, z_giveS_fin, z_giveS_stand, z_giveS_over, z_giveS_held, z_giveS_M, z_giveS_cond, z_giveS_pos, z_giveS_came, z_giveS_kept, z_giveS_kEnd, z_giveS_kSum, z_giveS_kRows, z_giveS_fails, z_giveS_taken, z_giveS_acks]; exact w.log), (by simp only [z_giveS_N, z_giveS_C, z_giveS_fr, z_giveS_to, z_giveS_tol, z_giveS_sum, z_giveS_rows, z_giveS_ended, z_giveS_latest, z_giveS_q, z_giveS_log, z_giveS_fin, z_giveS_stand, z_giveS_over, z_giveS_held, z_giveS_M, z_giveS_cond, z_giveS_pos, z_giveS_came, z_giveS_kept, z_giveS_kEnd, z_giveS_kSum, z_giveS_kRows, z_giveS_fails, z_giveS_taken, z_giveS_acks]; exact w.stand), (by simp only [z_giveS_N, z_giveS_C, z_giveS_fr, z_giveS_to, z_giveS_tol, z_giveS_sum, z_giveS_rows, z_giveS_ended, z_giveS_latest, z_giveS_q, z_giveS_log, z_giveS_fin, z_giveS_stand, z_giveS_over, z_giveS_held, z_giveS_M, z_giveS_cond, z_giveS_pos, z_giveS_came, z_giveS_kept, z_giveS_kEnd, z_giveS_kSum, z_giveS_kRows, z_giveS_fails, z_giveS_taken, z_giveS_acks]; exact fun c k => w.held), (by simp only [z_giveS_N, z_giveS_C, z_giveS_fr, z_giveS_to, z_giveS_tol, z_giveS_sum, z_giveS_rows, z_giveS_ended, z_giveS_latest, z_giveS_q, z_giveS_log, z_giveS_fin, z_giveS_stand, z_giveS_over, z_giveS_held, z_giveS_M, z_giveS_cond, z_giveS_pos, z_giveS_came, z_giveS_kept, z_giveS_kEnd, z_giveS_kSum, z_giveS_kRows, z_giveS_fails, z_giveS_taken, z_giveS_acks]; exact fun x k => w.latest), (by simp only [z_giveS_N, z_giveS_C, z_giveS_fr, z_giveS_to, z_giveS_tol, z_giveS_sum, z_giveS_rows, z_giveS_ended, z_giveS_latest, z_giveS_q, z_giveS_log, z_giveS_fin, z_giveS_stand, z_giveS_over, z_giveS_held, z_giveS_M, z_giveS_cond, z_giveS_pos, z_giveS_came, z_giveS_kept, z_giveS_kEnd, z_giveS_kSum, z_giveS_kRows, z_giveS_fails, z_giveS_taken, z_giveS_acks]; exact fun z => w.acks), (by simp only [z_giveS_N, z_giveS_C, z_giveS_fr, z_giveS_to, z_giveS_tol, z_giveS_sum, z_giveS_rows, z_giveS_ended, z_giveS_latest, z_giveS_q, z_giveS_log, z_giveS_fin, z_giveS_stand, z_giveS_over, z_giveS_held, z_giveS_M, z_giveS_cond, z_giveS_pos, z_giveS_came, z_giveS_kept, z_giveS_kEnd, z_giveS_kSum, z_giveS_kRows, z_giveS_fails, z_giveS_taken, z_giveS_acks]; exact w.ackn), (by simp only [z_giveS_N, z_giveS_C, z_giveS_fr, z_giveS_to, z_giveS_tol, z_giveS_sum, z_giveS_rows, z_giveS_ended, z_giveS_latest, z_giveS_q, z_giveS_log, z_giveS_fin, z_giveS_stand, z_giveS_over, z_giveS_held, z_giveS_M, z_giveS_cond, z_giveS_pos, z_giveS_came, z_giveS_kept, z_giveS_kEnd, z_giveS_kSum, z_giveS_kRows, z_giveS_fails, z_giveS_taken, z_giveS_acks]; exact w.cond), (by simp only [z_giveS_N, z_giveS_C, z_giveS_fr, z_giveS_to, z_giveS_tol, z_giveS_sum, z_giveS_rows, z_giveS_ended, z_giveS_latest, z_giveS_q, z_giveS_log, z_giveS_fin, z_giveS_stand, z_giveS_over, z_giveS_held, z_giveS_M, z_giveS_cond, z_giveS_pos, z_giveS_came, z_giveS_kept, z_giveS_kEnd, z_giveS_kSum, z_giveS_kRows, z_giveS_fails, z_giveS_taken, z_giveS_acks]; exact w.pos), ?_, ?_, ?_⟩
  · intro c
    rw [z_giveS_q]
    show (if c < s_C s ∧ s_fr s c = some x then s_q s c ++ [(k, v)] else s_q s c).length ≤ 12
    split
    · rename_i r
      rw [List.length_append, List.length_singleton]
      have := hq c r.1 r.2
      omega
    · exact w.q c
  · intro c z hz
    rcases hm c z hz with hz | hz
    · exact w.kin hz
    · rw [hz]; exact hk
  · intro c z hz h1
    rw [z_giveS_M]
    rcases hm c z hz with hz | hz
    · exact w.bar hz h1
    · rw [hz] at h1 ⊢; exact hb h1
  · intro c hc hf
    rw [z_giveS_C] at hc
    rw [z_giveS_fr] at hf
    rw [z_giveS_q]
    show (if c < s_C s ∧ s_fr s c = some x then s_q s c ++ [(k, v)] else s_q s c) = []
    rw [if_neg (fun r => by rw [hf] at r; cases r.2)]
    exact w.src hc hf
set_option maxHeartbeats 2000000 in
theorem fR_go_197_f (h : pRf e) (M : Mod t s) (w : Wf s) {x : Nat} (hx : x < 8) : ∃ t', fR_go_197 (pv e t) n (pL e 6 0 0) (nI x) 0 = some (.inl (some (.int (nI (pickT s x (pickS s x)).1))), pv e t', n) ∧ Mod t' (pickT s x (pickS s x)).2 ∧ Fr6 t t' := by
  obtain ⟨t', h1, M1, F1⟩ := fR_go_271_eq (n := n) h M w hx (s_C s) 0 zF (Nat.zero_add _) (zF_big (by have := w.C; omega))
  rw [← pickS_eq] at h1 M1
  refine ⟨t', ?_, M1, F1⟩
  rw [← h1]
  unfold fR_go_197
  rw [if_pos rfl]
  rfl
set_option maxHeartbeats 2000000 in
theorem fR_go_197_t (h : pRf e) (M : Mod t s) (w : Wf s) {x : Nat} (hx : x < s_N s) (hA9 : (s_acks s).length ≤ 900) (hq : ∀ c, c < s_C s → s_fr s c = some x → (s_q s c).length ≤ 11) : ∃ t', fR_go_197 (pv e t) n (pL e 6 0 0) (nI x) 1 = some (.inl (some (.int 6)), pv e t', n) ∧ Mod t' (keepAll x (s_M s) (u_ended (giveS s x 2 0) (fu (s_ended (giveS s x 2 0)) x true))) ∧ Fr6 t t' := by
  have hN1 := w.N1; have hN8 := w.N8; have hC := w.C; have hM := w.M; have hA := w.ackn
  obtain ⟨t1, h1, M1, F1⟩ := fR_give_eq (n := n) (x := x) (k := 2) h M w (by omega) 0
  have h1' : fR_give (pv e t) n (pL e 6 0 0) (nI x) 2 0 = some (.inl none, pv e t1, n) := h1
  have w1 : Wf (giveS s x 2 0) := w.give (by omega) hq (fun q => by omega)
  have M2 := M1.v_ended (hI_fu b2i (k := x) (a := true) M1.c_r3 rfl)
  have w2 : Wf (u_ended (giveS s x 2 0) (fu (s_ended (giveS s x 2 0)) x true)) := w1.uended
  have hMM : s_M (u_ended (giveS s x 2 0) (fu (s_ended (giveS s x 2 0)) x true)) = s_M s := by rw [y_M_ended, z_giveS_M]
  obtain ⟨t3, h3, M3, F3⟩ := fR_go_218_eq (n := n) h w2 (x := x) (by rw [y_N_ended, z_giveS_N]; exact hx) (by rw [y_acks_ended, z_giveS_acks]; exact hA9) (s_M s) 0 _ zF (by rw [hMM, Nat.zero_add]) (zF_big (by omega)) M2
  rw [hMM] at M3
  refine ⟨t3, ?_, M3, F1.trans ((Fr6.uI (Fr6.refl _)).trans F3)⟩
  rw [← h3]
  unfold fR_go_197
  generalize fR_go_218 zF = G
  generalize fR_go_271 zF = G2
  rw [if_neg (by decide)]
  simp (disch := first | assumption | omega | exact b2i_01 _ | exact Or.inl rfl | exact Or.inr rfl) only [rf_0 h, rf_1 h, rf_2 h, rf_3 h, rf_4 h, rf_5 h, rf_6 h, rf_7 h, rf_8 h, rf_9 h, rf_10 h, rf_11 h, rf_12 h, rf_13 h, rf_14 h, rf_15 h, rf_16 h, rf_17 h, rf_18 h, rf_19 h, rf_20 h, rf_21 h, rf_22 h, rf_23 h, rf_24 h, rf_25 h, rf_26 h, rf_27 h, rf_28 h, rf_29 h, rf_30 h, rf_31 h, rf_32 h, rf_33 h, rp_1 h, rp_2 h, rp_7 h, rp_19 h, rp_29 h, rg_1 h, rg_2 h, rg_3 h, rg_4 h, rg_5 h, rg_6 h, rg_7 h, rg_8 h, rg_9 h, rg_10 h, rg_11 h, rg_12 h, rg_13 h, rg_14 h, rg_15 h, rg_16 h, rg_17 h, rg_18 h, rg_19 h, rg_20 h, rg_21 h, rg_22 h, rg_23 h, rg_24 h, rg_25 h, rg_26 h, rg_27 h, rg_28 h, rs_1 h, rs_2 h, rs_3 h, rs_4 h, rs_5 h, rs_6 h, rs_7 h, rs_8 h, rs_9 h, rs_10 h, rs_11 h, rs_12 h, rs_13 h, rs_14 h, rs_15 h, rs_16 h, rs_17 h, rs_18 h, rs_19 h, rs_20 h, rs_21 h, rs_22 h, rs_23 h, rs_24 h, rs_25 h, rs_26 h, rs_27 h, rs_28 h, ro h, rI_uI, rI_uJ, rI_uR, rI_wI, rI_wJ, rJ_uJ, rJ_uI, rJ_uR, rJ_wI, rJ_wJ, rR_uR, rR_uI, rR_uJ, rR_wI, rR_wJ, qI_wI, qI_wJ, qI_uI, qI_uJ, qI_uR, qJ_wJ, qJ_wI, qJ_uI, qJ_uJ, qJ_uR, Option.bind_some, zcV_s, zcI_s, zcL_s, zrI, zrV, zrL, nI_mul8, nI_mul16, nI_mul200, nI_1, eq_self, Nat.reduceEqDiff, and_true, true_and, and_false, false_and, and_self, ite_true, ite_false, ↓reduceIte, Nat.add_zero, if_true, if_false, b2i_t, b2i_f, o2i_s, o2i_n, nI_leI, nI_ltI, nI_eq, nI_eq0, nI_eqm1, b2i_eq0, h1', upd_fu]
  rfl
set_option maxHeartbeats 2000000 in
theorem fR_go_26_end (h : pRf e) (M : Mod t s) (w : Wf s) {x m f : Nat} (hx : x < s_N s) (hm : m < s_M s) (hA9 : (s_acks s).length ≤ 900) : ∃ t', fR_go_26 (f + 1) (pv e t) n (pL e 6 0 0) (nI x) (nI m) 1 (nI (s_C s)) = some (.inl (some (.int (nI (if credit s x then (if s_fails s m x then 5 else 4) else 0)))), pv e t', n) ∧ Mod t' (if credit s x then (if s_fails s m x then closeS s m 2 else letGoS (giveS (keepS s m x) x 1 (lN m)) x (s_C (giveS (keepS s m x) x 1 (lN m)))) else s) ∧ Fr6 t t' := by
  have hN1 := w.N1; have hN8 := w.N8; have hC := w.C; have hM := w.M; have hA := w.ackn
  obtain ⟨t1, h1, M1, F1⟩ := fR_keep_eq (n := n) (m := m) (x := x) h M (by omega) (by omega) (by omega)
  have w1 : Wf (keepS s m x) := w.keep hm hx (by omega)
  obtain ⟨t2, h2, M2, F2⟩ := fR_give_eq (n := n) (x := x) (k := 1) h M1 w1 (by omega) (lN m)
  have h2' : fR_give (pv e t1) n (pL e 6 0 0) (nI x) 1 (lN m) = some (.inl none, pv e t2, n) := h2
  have hCC : s_C (giveS (keepS s m x) x 1 (lN m)) = s_C s := by rw [z_giveS_C, z_keepS_C]
  obtain ⟨t4, h4, M4, F4⟩ := fR_close_eq (n := n) (m := m) (how := 2) h M w (by omega) (by omega)
  have h4' : fR_close (pv e t) n (pL e 6 0 0) (nI m) 2 = some (.inl none, pv e t4, n) := h4
  have key : credit s x = true → s_fails s m x = false → ∃ t', fR_go_161 zF (pv e t2) n (pL e 6 0 0) (nI x) 0 = some (.inl (some (.int 4)), pv e t', n) ∧ Mod t' (letGoS (giveS (keepS s m x) x 1 (lN m)) x (s_C (giveS (keepS s m x) x 1 (lN m)))) ∧ Fr6 t t' := by
    intro hcr _
    have w2 : Wf (giveS (keepS s m x) x 1 (lN m)) := w1.give (by omega) (fun c hcC hc => by
      rw [z_keepS_C] at hcC
      rw [z_keepS_fr] at hc
      rw [z_keepS_q]
      have := List.all_eq_true.mp hcr c (by unfold outs; rw [List.mem_filter, List.mem_range]; exact ⟨hcC, by rw [hc]; exact beq_self_eq_true _⟩)
      have := of_decide_eq_true this
      omega) (fun _ => ⟨m, by rw [z_keepS_M]; exact hm, rfl⟩)
    obtain ⟨t3, h3, M3, F3⟩ := fR_go_161_eq (n := n) h w2 (x := x) (by omega) (s_C s) 0 t2 zF (by rw [hCC, Nat.zero_add]) (zF_big (by omega)) (by rw [letGoS_0]; exact M2)
    exact ⟨t3, h3, M3, F1.trans (F2.trans F3)⟩
  have hq1 : ¬ ((1 : Int32) = 0) := by decide
  unfold fR_go_26
  generalize fR_go_161 zF = G at key ⊢
  generalize fR_go_26 f = G2
  generalize fR_go_197 = G3
  simp (disch := first | assumption | omega | exact b2i_01 _ | exact Or.inl rfl | exact Or.inr rfl) only [rf_0 h, rf_1 h, rf_2 h, rf_3 h, rf_4 h, rf_5 h, rf_6 h, rf_7 h, rf_8 h, rf_9 h, rf_10 h, rf_11 h, rf_12 h, rf_13 h, rf_14 h, rf_15 h, rf_16 h, rf_17 h, rf_18 h, rf_19 h, rf_20 h, rf_21 h, rf_22 h, rf_23 h, rf_24 h, rf_25 h, rf_26 h, rf_27 h, rf_28 h, rf_29 h, rf_30 h, rf_31 h, rf_32 h, rf_33 h, rp_1 h, rp_2 h, rp_7 h, rp_19 h, rp_29 h, rg_1 h, rg_2 h, rg_3 h, rg_4 h, rg_5 h, rg_6 h, rg_7 h, rg_8 h, rg_9 h, rg_10 h, rg_11 h, rg_12 h, rg_13 h, rg_14 h, rg_15 h, rg_16 h, rg_17 h, rg_18 h, rg_19 h, rg_20 h, rg_21 h, rg_22 h, rg_23 h, rg_24 h, rg_25 h, rg_26 h, rg_27 h, rg_28 h, rs_1 h, rs_2 h, rs_3 h, rs_4 h, rs_5 h, rs_6 h, rs_7 h, rs_8 h, rs_9 h, rs_10 h, rs_11 h, rs_12 h, rs_13 h, rs_14 h, rs_15 h, rs_16 h, rs_17 h, rs_18 h, rs_19 h, rs_20 h, rs_21 h, rs_22 h, rs_23 h, rs_24 h, rs_25 h, rs_26 h, rs_27 h, rs_28 h, ro h, rI_uI, rI_uJ, rI_uR, rI_wI, rI_wJ, rJ_uJ, rJ_uI, rJ_uR, rJ_wI, rJ_wJ, rR_uR, rR_uI, rR_uJ, rR_wI, rR_wJ, qI_wI, qI_wJ, qI_uI, qI_uJ, qI_uR, qJ_wJ, qJ_wI, qJ_uI, qJ_uJ, qJ_uR, Option.bind_some, zcV_s, zcI_s, zcL_s, zrI, zrV, zrL, nI_mul8, nI_mul16, nI_mul200, nI_1, eq_self, Nat.reduceEqDiff, and_true, true_and, and_false, false_and, and_self, ite_true, ite_false, ↓reduceIte, Nat.add_zero, if_true, if_false, b2i_t, b2i_f, o2i_s, o2i_n, M.c_f0, M.c_f2, M.c_f7, M.c_f19, M.c_f29, M.r1, M.r2, M.r3, M.r4, M.r5, M.r6, M.r9, M.r11, M.r12, M.r13, M.r14, M.r15, M.r16, M.r17, M.r18, M.r19, M.r20, M.r21, M.r22, M.r23, M.r24, nI_leI, nI_ltI, nI_eq, nI_eq0, nI_eqm1, b2i_eq0, Nat.le_refl, hq1, fR_hasCredit_eq h M w (show x < 8 by omega), h1, nI_l (show m < 2 ^ 31 by omega), h2', h4']
  cases hcr : credit s x with
  | false =>
    simp only [Bool.false_eq_true, if_false, if_true]
    exact ⟨t, rfl, M, Fr6.refl _⟩
  | true =>
    cases hfl : s_fails s m x with
    | true =>
      simp only [if_true, Bool.true_eq_false, if_false]
      exact ⟨t4, rfl, M4, F4⟩
    | false =>
      simp only [if_true, Bool.false_eq_true, Bool.true_eq_false, if_false]
      exact key hcr hfl
set_option maxHeartbeats 2000000 in
theorem fR_go_eq (h : pRf e) (M : Mod t s) (w : Wf s) {x : Nat} (hx : x < s_N s) (h1 : s_ended s x = false → OneM s x) (hA9 : (s_acks s).length ≤ 900) (hq : ∀ c, c < s_C s → s_fr s c = some x → s_ended s x = false → (s_q s c).length ≤ 11) : ∃ t', fR_go (pv e t) n (pL e 6 0 0) (nI x) = some (.inl (some (.int (nI (goS s x).1))), pv e t', n) ∧ Mod t' (goS s x).2 ∧ Fr6 t t' := by
  have hN1 := w.N1; have hN8 := w.N8; have hC := w.C; have hM := w.M; have hA := w.ackn
  have hx8 : x < 8 := by omega
  obtain ⟨g, hg⟩ := fR_go_26_eq (n := n) h M w hx8 (s_C s) 0 none true zF (Nat.zero_add _) (zF_big (by omega))
  cases he : s_ended s x with
  | true =>
    have e1 : goS s x = (0, s) := by unfold goS; rw [if_pos (Or.inl he)]
    rw [e1]
    unfold fR_go
    generalize fR_go_26 zF = G
    simp (disch := first | assumption | omega | exact b2i_01 _ | exact Or.inl rfl | exact Or.inr rfl) only [rf_0 h, rf_1 h, rf_2 h, rf_3 h, rf_4 h, rf_5 h, rf_6 h, rf_7 h, rf_8 h, rf_9 h, rf_10 h, rf_11 h, rf_12 h, rf_13 h, rf_14 h, rf_15 h, rf_16 h, rf_17 h, rf_18 h, rf_19 h, rf_20 h, rf_21 h, rf_22 h, rf_23 h, rf_24 h, rf_25 h, rf_26 h, rf_27 h, rf_28 h, rf_29 h, rf_30 h, rf_31 h, rf_32 h, rf_33 h, rp_1 h, rp_2 h, rp_7 h, rp_19 h, rp_29 h, rg_1 h, rg_2 h, rg_3 h, rg_4 h, rg_5 h, rg_6 h, rg_7 h, rg_8 h, rg_9 h, rg_10 h, rg_11 h, rg_12 h, rg_13 h, rg_14 h, rg_15 h, rg_16 h, rg_17 h, rg_18 h, rg_19 h, rg_20 h, rg_21 h, rg_22 h, rg_23 h, rg_24 h, rg_25 h, rg_26 h, rg_27 h, rg_28 h, rs_1 h, rs_2 h, rs_3 h, rs_4 h, rs_5 h, rs_6 h, rs_7 h, rs_8 h, rs_9 h, rs_10 h, rs_11 h, rs_12 h, rs_13 h, rs_14 h, rs_15 h, rs_16 h, rs_17 h, rs_18 h, rs_19 h, rs_20 h, rs_21 h, rs_22 h, rs_23 h, rs_24 h, rs_25 h, rs_26 h, rs_27 h, rs_28 h, ro h, rI_uI, rI_uJ, rI_uR, rI_wI, rI_wJ, rJ_uJ, rJ_uI, rJ_uR, rJ_wI, rJ_wJ, rR_uR, rR_uI, rR_uJ, rR_wI, rR_wJ, qI_wI, qI_wJ, qI_uI, qI_uJ, qI_uR, qJ_wJ, qJ_wI, qJ_uI, qJ_uJ, qJ_uR, Option.bind_some, zcV_s, zcI_s, zcL_s, zrI, zrV, zrL, nI_mul8, nI_mul16, nI_mul200, nI_1, eq_self, Nat.reduceEqDiff, and_true, true_and, and_false, false_and, and_self, ite_true, ite_false, ↓reduceIte, Nat.add_zero, if_true, if_false, b2i_t, b2i_f, o2i_s, o2i_n, M.c_f0, M.c_f2, M.c_f7, M.c_f19, M.c_f29, M.r1, M.r2, M.r3, M.r4, M.r5, M.r6, M.r9, M.r11, M.r12, M.r13, M.r14, M.r15, M.r16, M.r17, M.r18, M.r19, M.r20, M.r21, M.r22, M.r23, M.r24, nI_leI, nI_ltI, nI_eq, nI_eq0, nI_eqm1, b2i_eq0, he]
    exact ⟨t, rfl, M, Fr6.refl _⟩
  | false =>
    cases hi : hasIn s x with
    | false =>
      have e1 : goS s x = (0, s) := by unfold goS; rw [if_pos (Or.inr hi)]
      rw [e1]
      unfold fR_go
      generalize fR_go_26 zF = G
      simp (disch := first | assumption | omega | exact b2i_01 _ | exact Or.inl rfl | exact Or.inr rfl) only [rf_0 h, rf_1 h, rf_2 h, rf_3 h, rf_4 h, rf_5 h, rf_6 h, rf_7 h, rf_8 h, rf_9 h, rf_10 h, rf_11 h, rf_12 h, rf_13 h, rf_14 h, rf_15 h, rf_16 h, rf_17 h, rf_18 h, rf_19 h, rf_20 h, rf_21 h, rf_22 h, rf_23 h, rf_24 h, rf_25 h, rf_26 h, rf_27 h, rf_28 h, rf_29 h, rf_30 h, rf_31 h, rf_32 h, rf_33 h, rp_1 h, rp_2 h, rp_7 h, rp_19 h, rp_29 h, rg_1 h, rg_2 h, rg_3 h, rg_4 h, rg_5 h, rg_6 h, rg_7 h, rg_8 h, rg_9 h, rg_10 h, rg_11 h, rg_12 h, rg_13 h, rg_14 h, rg_15 h, rg_16 h, rg_17 h, rg_18 h, rg_19 h, rg_20 h, rg_21 h, rg_22 h, rg_23 h, rg_24 h, rg_25 h, rg_26 h, rg_27 h, rg_28 h, rs_1 h, rs_2 h, rs_3 h, rs_4 h, rs_5 h, rs_6 h, rs_7 h, rs_8 h, rs_9 h, rs_10 h, rs_11 h, rs_12 h, rs_13 h, rs_14 h, rs_15 h, rs_16 h, rs_17 h, rs_18 h, rs_19 h, rs_20 h, rs_21 h, rs_22 h, rs_23 h, rs_24 h, rs_25 h, rs_26 h, rs_27 h, rs_28 h, ro h, rI_uI, rI_uJ, rI_uR, rI_wI, rI_wJ, rJ_uJ, rJ_uI, rJ_uR, rJ_wI, rJ_wJ, rR_uR, rR_uI, rR_uJ, rR_wI, rR_wJ, qI_wI, qI_wJ, qI_uI, qI_uJ, qI_uR, qJ_wJ, qJ_wI, qJ_uI, qJ_uJ, qJ_uR, Option.bind_some, zcV_s, zcI_s, zcL_s, zrI, zrV, zrL, nI_mul8, nI_mul16, nI_mul200, nI_1, eq_self, Nat.reduceEqDiff, and_true, true_and, and_false, false_and, and_self, ite_true, ite_false, ↓reduceIte, Nat.add_zero, if_true, if_false, b2i_t, b2i_f, o2i_s, o2i_n, M.c_f0, M.c_f2, M.c_f7, M.c_f19, M.c_f29, M.r1, M.r2, M.r3, M.r4, M.r5, M.r6, M.r9, M.r11, M.r12, M.r13, M.r14, M.r15, M.r16, M.r17, M.r18, M.r19, M.r20, M.r21, M.r22, M.r23, M.r24, nI_leI, nI_ltI, nI_eq, nI_eq0, nI_eqm1, b2i_eq0, he, fR_hasInto_eq h M w hx8, hi]
      exact ⟨t, rfl, M, Fr6.refl _⟩
    | true =>
      have e0 : fR_go (pv e t) n (pL e 6 0 0) (nI x) = fR_go_26 zF (pv e t) n (pL e 6 0 0) (nI x) (-1) 1 0 := by
        unfold fR_go
        generalize fR_go_26 zF = G
        simp (disch := first | assumption | omega | exact b2i_01 _ | exact Or.inl rfl | exact Or.inr rfl) only [rf_0 h, rf_1 h, rf_2 h, rf_3 h, rf_4 h, rf_5 h, rf_6 h, rf_7 h, rf_8 h, rf_9 h, rf_10 h, rf_11 h, rf_12 h, rf_13 h, rf_14 h, rf_15 h, rf_16 h, rf_17 h, rf_18 h, rf_19 h, rf_20 h, rf_21 h, rf_22 h, rf_23 h, rf_24 h, rf_25 h, rf_26 h, rf_27 h, rf_28 h, rf_29 h, rf_30 h, rf_31 h, rf_32 h, rf_33 h, rp_1 h, rp_2 h, rp_7 h, rp_19 h, rp_29 h, rg_1 h, rg_2 h, rg_3 h, rg_4 h, rg_5 h, rg_6 h, rg_7 h, rg_8 h, rg_9 h, rg_10 h, rg_11 h, rg_12 h, rg_13 h, rg_14 h, rg_15 h, rg_16 h, rg_17 h, rg_18 h, rg_19 h, rg_20 h, rg_21 h, rg_22 h, rg_23 h, rg_24 h, rg_25 h, rg_26 h, rg_27 h, rg_28 h, rs_1 h, rs_2 h, rs_3 h, rs_4 h, rs_5 h, rs_6 h, rs_7 h, rs_8 h, rs_9 h, rs_10 h, rs_11 h, rs_12 h, rs_13 h, rs_14 h, rs_15 h, rs_16 h, rs_17 h, rs_18 h, rs_19 h, rs_20 h, rs_21 h, rs_22 h, rs_23 h, rs_24 h, rs_25 h, rs_26 h, rs_27 h, rs_28 h, ro h, rI_uI, rI_uJ, rI_uR, rI_wI, rI_wJ, rJ_uJ, rJ_uI, rJ_uR, rJ_wI, rJ_wJ, rR_uR, rR_uI, rR_uJ, rR_wI, rR_wJ, qI_wI, qI_wJ, qI_uI, qI_uJ, qI_uR, qJ_wJ, qJ_wI, qJ_uI, qJ_uJ, qJ_uR, Option.bind_some, zcV_s, zcI_s, zcL_s, zrI, zrV, zrL, nI_mul8, nI_mul16, nI_mul200, nI_1, eq_self, Nat.reduceEqDiff, and_true, true_and, and_false, false_and, and_self, ite_true, ite_false, ↓reduceIte, Nat.add_zero, if_true, if_false, b2i_t, b2i_f, o2i_s, o2i_n, M.c_f0, M.c_f2, M.c_f7, M.c_f19, M.c_f29, M.r1, M.r2, M.r3, M.r4, M.r5, M.r6, M.r9, M.r11, M.r12, M.r13, M.r14, M.r15, M.r16, M.r17, M.r18, M.r19, M.r20, M.r21, M.r22, M.r23, M.r24, nI_leI, nI_ltI, nI_eq, nI_eq0, nI_eqm1, b2i_eq0, he, fR_hasInto_eq h M w hx8, hi]
        simp
      rw [lastH_held (h1 he), all_ins, Bool.true_and] at hg
      have hg' : fR_go_26 zF (pv e t) n (pL e 6 0 0) (nI x) (-1) 1 0 = _ := hg
      rw [e0, hg']
      clear e0 hg hg'
      unfold goS
      rw [if_neg (by simp [he, hi])]
      cases hall : (ins s x).all (fun c => (s_held s c).isSome || s_over s c) with
      | false =>
        rw [if_neg (by simp)]
        obtain ⟨t', h1, M1, F1⟩ := fR_go_197_f (n := n) h M w hx8
        refine ⟨t', ?_, M1, F1⟩
        rw [b2i_f]
        refine Eq.trans ?_ h1
        unfold fR_go_26
        generalize fR_go_161 zF = G
        generalize fR_go_26 g = G2
        generalize fR_go_197 = G3
        simp (disch := first | assumption | omega | exact b2i_01 _ | exact Or.inl rfl | exact Or.inr rfl) only [rf_0 h, rf_1 h, rf_2 h, rf_3 h, rf_4 h, rf_5 h, rf_6 h, rf_7 h, rf_8 h, rf_9 h, rf_10 h, rf_11 h, rf_12 h, rf_13 h, rf_14 h, rf_15 h, rf_16 h, rf_17 h, rf_18 h, rf_19 h, rf_20 h, rf_21 h, rf_22 h, rf_23 h, rf_24 h, rf_25 h, rf_26 h, rf_27 h, rf_28 h, rf_29 h, rf_30 h, rf_31 h, rf_32 h, rf_33 h, rp_1 h, rp_2 h, rp_7 h, rp_19 h, rp_29 h, rg_1 h, rg_2 h, rg_3 h, rg_4 h, rg_5 h, rg_6 h, rg_7 h, rg_8 h, rg_9 h, rg_10 h, rg_11 h, rg_12 h, rg_13 h, rg_14 h, rg_15 h, rg_16 h, rg_17 h, rg_18 h, rg_19 h, rg_20 h, rg_21 h, rg_22 h, rg_23 h, rg_24 h, rg_25 h, rg_26 h, rg_27 h, rg_28 h, rs_1 h, rs_2 h, rs_3 h, rs_4 h, rs_5 h, rs_6 h, rs_7 h, rs_8 h, rs_9 h, rs_10 h, rs_11 h, rs_12 h, rs_13 h, rs_14 h, rs_15 h, rs_16 h, rs_17 h, rs_18 h, rs_19 h, rs_20 h, rs_21 h, rs_22 h, rs_23 h, rs_24 h, rs_25 h, rs_26 h, rs_27 h, rs_28 h, ro h, rI_uI, rI_uJ, rI_uR, rI_wI, rI_wJ, rJ_uJ, rJ_uI, rJ_uR, rJ_wI, rJ_wJ, rR_uR, rR_uI, rR_uJ, rR_wI, rR_wJ, qI_wI, qI_wJ, qI_uI, qI_uJ, qI_uR, qJ_wJ, qJ_wI, qJ_uI, qJ_uJ, qJ_uR, Option.bind_some, zcV_s, zcI_s, zcL_s, zrI, zrV, zrL, nI_mul8, nI_mul16, nI_mul200, nI_1, eq_self, Nat.reduceEqDiff, and_true, true_and, and_false, false_and, and_self, ite_true, ite_false, ↓reduceIte, Nat.add_zero, if_true, if_false, b2i_t, b2i_f, o2i_s, o2i_n, M.c_f0, M.c_f2, M.c_f7, M.c_f19, M.c_f29, M.r1, M.r2, M.r3, M.r4, M.r5, M.r6, M.r9, M.r11, M.r12, M.r13, M.r14, M.r15, M.r16, M.r17, M.r18, M.r19, M.r20, M.r21, M.r22, M.r23, M.r24, nI_leI, nI_ltI, nI_eq, nI_eq0, nI_eqm1, b2i_eq0, Nat.le_refl]
      | true =>
        rw [if_pos rfl, b2i_t]
        cases hh : heldS s x with
        | none =>
          obtain ⟨t', h1, M1, F1⟩ := fR_go_197_t (n := n) h M w hx hA9 (fun c hcC hc => hq c hcC hc he)
          refine ⟨t', ?_, M1, F1⟩
          refine Eq.trans ?_ h1
          have hq1 : ¬ ((1 : Int32) = 0) := by decide
          unfold fR_go_26
          generalize fR_go_161 zF = G
          generalize fR_go_26 g = G2
          generalize fR_go_197 = G3
          simp (disch := first | assumption | omega | exact b2i_01 _ | exact Or.inl rfl | exact Or.inr rfl) only [rf_0 h, rf_1 h, rf_2 h, rf_3 h, rf_4 h, rf_5 h, rf_6 h, rf_7 h, rf_8 h, rf_9 h, rf_10 h, rf_11 h, rf_12 h, rf_13 h, rf_14 h, rf_15 h, rf_16 h, rf_17 h, rf_18 h, rf_19 h, rf_20 h, rf_21 h, rf_22 h, rf_23 h, rf_24 h, rf_25 h, rf_26 h, rf_27 h, rf_28 h, rf_29 h, rf_30 h, rf_31 h, rf_32 h, rf_33 h, rp_1 h, rp_2 h, rp_7 h, rp_19 h, rp_29 h, rg_1 h, rg_2 h, rg_3 h, rg_4 h, rg_5 h, rg_6 h, rg_7 h, rg_8 h, rg_9 h, rg_10 h, rg_11 h, rg_12 h, rg_13 h, rg_14 h, rg_15 h, rg_16 h, rg_17 h, rg_18 h, rg_19 h, rg_20 h, rg_21 h, rg_22 h, rg_23 h, rg_24 h, rg_25 h, rg_26 h, rg_27 h, rg_28 h, rs_1 h, rs_2 h, rs_3 h, rs_4 h, rs_5 h, rs_6 h, rs_7 h, rs_8 h, rs_9 h, rs_10 h, rs_11 h, rs_12 h, rs_13 h, rs_14 h, rs_15 h, rs_16 h, rs_17 h, rs_18 h, rs_19 h, rs_20 h, rs_21 h, rs_22 h, rs_23 h, rs_24 h, rs_25 h, rs_26 h, rs_27 h, rs_28 h, ro h, rI_uI, rI_uJ, rI_uR, rI_wI, rI_wJ, rJ_uJ, rJ_uI, rJ_uR, rJ_wI, rJ_wJ, rR_uR, rR_uI, rR_uJ, rR_wI, rR_wJ, qI_wI, qI_wJ, qI_uI, qI_uJ, qI_uR, qJ_wJ, qJ_wI, qJ_uI, qJ_uJ, qJ_uR, Option.bind_some, zcV_s, zcI_s, zcL_s, zrI, zrV, zrL, nI_mul8, nI_mul16, nI_mul200, nI_1, eq_self, Nat.reduceEqDiff, and_true, true_and, and_false, false_and, and_self, ite_true, ite_false, ↓reduceIte, Nat.add_zero, if_true, if_false, b2i_t, b2i_f, o2i_s, o2i_n, M.c_f0, M.c_f2, M.c_f7, M.c_f19, M.c_f29, M.r1, M.r2, M.r3, M.r4, M.r5, M.r6, M.r9, M.r11, M.r12, M.r13, M.r14, M.r15, M.r16, M.r17, M.r18, M.r19, M.r20, M.r21, M.r22, M.r23, M.r24, nI_leI, nI_ltI, nI_eq, nI_eq0, nI_eqm1, b2i_eq0, Nat.le_refl, hq1]
        | some m =>
          obtain ⟨c, hc, hmm⟩ := List.exists_of_findSome?_eq_some hh
          have hm := w.held hmm
          obtain ⟨t', h1, M1, F1⟩ := fR_go_26_end (n := n) (f := g) h M w hx hm hA9
          refine ⟨t', ?_, ?_, F1⟩
          · rw [o2i_s, h1]
            dsimp only
            cases credit s x with
            | false => rfl
            | true => cases s_fails s m x <;> rfl
          · dsimp only
            cases hcr : credit s x with
            | false => rw [hcr] at M1; exact M1
            | true =>
              rw [hcr] at M1
              cases hfl : s_fails s m x with
              | true => rw [hfl] at M1; exact M1
              | false => rw [hfl] at M1; exact M1
end PM
