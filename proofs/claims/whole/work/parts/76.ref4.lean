/-! the reference's writing methods: gone, close, give -/
theorem up3_up3 {α : Type} (f : Nat → Nat → Nat → α) (k i s : Nat) (v v' : α) : up3 (up3 f k i s v) k i s v' = up3 f k i s v' := by
  funext a b c
  unfold up3
  by_cases q : a = k ∧ b = i ∧ c = s
  · rw [if_pos q, if_pos q]
  · rw [if_neg q, if_neg q, if_neg q]
theorem up3_comm {α : Type} (f : Nat → Nat → Nat → α) (k i : Nat) {s s' : Nat} (v v' : α) (h : s ≠ s') : up3 (up3 f k i s v) k i s' v' = up3 (up3 f k i s' v') k i s v := by
  funext a b c
  unfold up3
  by_cases q : a = k ∧ b = i ∧ c = s'
  · rw [if_pos q, if_neg (fun z => h (z.2.2.symm.trans q.2.2)), if_pos q]
  · rw [if_neg q, if_neg q]
theorem up3_self {α : Type} (f : Nat → Nat → Nat → α) (k i s : Nat) : up3 f k i s (f k i s) = f := by
  funext a b c
  unfold up3
  by_cases q : a = k ∧ b = i ∧ c = s
  · rw [if_pos q, q.1, q.2.1, q.2.2]
  · rw [if_neg q]
theorem uI_self (t : pS) (k i s : Nat) : uI t k i s (rI t k i s) = t := by
  unfold uI rI; rw [up3_self]
theorem uJ_self (t : pS) (k i s : Nat) : uJ t k i s (rJ t k i s) = t := by
  unfold uJ rJ; rw [up3_self]
theorem uI_uI (t : pS) (k i s : Nat) (a b : Nat → Int32) : uI (uI t k i s a) k i s b = uI t k i s b := by
  unfold uI; rw [up3_up3]
theorem uJ_uJ (t : pS) (k i s : Nat) (a b : Nat → Int64) : uJ (uJ t k i s a) k i s b = uJ t k i s b := by
  unfold uJ; rw [up3_up3]
theorem uI_uJ (t : pS) (k i s k' i' s' : Nat) (a : Nat → Int64) (b : Nat → Int32) : uI (uJ t k i s a) k' i' s' b = uJ (uI t k' i' s' b) k i s a := rfl
theorem uI_comm (t : pS) (k i : Nat) {s s' : Nat} (a b : Nat → Int32) (h : s ≠ s') : uI (uI t k i s a) k i s' b = uI (uI t k i s' b) k i s a := by
  unfold uI; rw [up3_comm _ _ _ _ _ h]
def shf {α : Type} (f : Nat → α) (o d : Nat) : Nat → α := fun j => if o ≤ j ∧ j < o + d then f (j + 1) else f j
theorem shf_0 {α : Type} (f : Nat → α) (o : Nat) : shf f o 0 = f := by
  funext j
  unfold shf
  rw [if_neg (by omega)]
theorem shf_s {α : Type} (f : Nat → α) (o d : Nat) : shf (fu f o (f (o + 1))) (o + 1) d = shf f o (d + 1) := by
  funext j
  unfold shf fu
  by_cases q : j = o
  · rw [if_neg (by omega), if_pos q, if_pos (by omega), q]
  · by_cases r : o ≤ j ∧ j < o + (d + 1)
    · rw [if_pos (by omega), if_neg (by omega), if_pos r]
    · rw [if_neg (by omega), if_neg q, if_neg r]
theorem hL_erase {α β : Type} {f : Nat → α} {o k d : Nat} {l : List β} {g : β → α} (H : hL f o l g) (hd : k + d + 1 = l.length) : hL (shf f (o + k) d) o (l.eraseIdx k) g := by
  intro i z hi
  rw [List.getElem?_eraseIdx] at hi
  unfold shf
  by_cases q : i < k
  · rw [if_pos q] at hi
    rw [if_neg (by omega)]
    exact H i z hi
  · rw [if_neg q] at hi
    have := (List.getElem?_eq_some_iff.mp hi).1
    rw [if_pos (by omega)]
    exact H (i + 1) z hi
theorem hL_shf_out {α β : Type} {f : Nat → α} {o p d : Nat} {l : List β} {g : β → α} (H : hL f o l g) (hd : p + d ≤ o ∨ o + l.length ≤ p) : hL (shf f p d) o l g := by
  intro i z hi
  have := (List.getElem?_eq_some_iff.mp hi).1
  unfold shf
  rw [if_neg (by omega)]
  exact H i z hi
/-- from behind, what p takes is left out -/
def dnw {β : Type} (p : β → Bool) : Nat → List β → List β
  | 0, l => l
  | k + 1, l => dnw p k (if (l[k]?).any p then l.eraseIdx k else l)
theorem dnw_app {β : Type} (p : β → Bool) : ∀ (a b : List β), dnw p a.length (a ++ b) = a.filter (fun z => !p z) ++ b := by
  intro a
  induction h : a.length generalizing a with
  | zero => intro b; cases a with
    | nil => rfl
    | cons x a => cases h
  | succ k ih =>
    intro b
    have hne : a ≠ [] := by intro q; rw [q] at h; cases h
    obtain ⟨a', z, rfl⟩ : ∃ a' z, a = a' ++ [z] := ⟨a.dropLast, a.getLast hne, (List.dropLast_concat_getLast hne).symm⟩
    have hl : a'.length = k := by rw [List.length_append] at h; simpa using h
    have hg : (a' ++ [z] ++ b)[k]? = some z := by
      rw [List.append_assoc, List.getElem?_append_right (by omega), hl, Nat.sub_self]; rfl
    have he : (a' ++ [z] ++ b).eraseIdx k = a' ++ b := by
      rw [List.append_assoc, List.eraseIdx_append_of_length_le (by omega), hl, Nat.sub_self]; rfl
    unfold dnw
    rw [hg, he, List.filter_append]
    by_cases q : p z = true
    · rw [if_pos (by simpa using q), ih a' hl b]
      simp [q]
    · rw [if_neg (by simpa using q), show a' ++ [z] ++ b = a' ++ ([z] ++ b) from List.append_assoc _ _ _, ih a' hl]
      simp [q]
theorem dnw_len {β : Type} (p : β → Bool) (l : List β) : dnw p l.length l = l.filter (fun z => !p z) := by
  have := dnw_app p l []
  rwa [List.append_nil, List.append_nil] at this
section PM
variable {e : pE} {t : pS} {s : zSt} {n : Nat}
set_option maxHeartbeats 2000000 in
theorem fR_gone_12_eq (h : pRf e) {c L : Nat} (hc : c < 16) (hL : L ≤ 15) : ∀ (d i : Nat) (t : pS) (f : Nat), i + d = L → d < f → rI t 6 0 9 c = nI L → fR_gone_12 f (pv e t) n (pL e 6 0 0) (nI c) (nI i) = some (.inl none, pv e (uJ (uI t 6 0 7 (shf (rI t 6 0 7) (16 * c + i) d)) 6 0 8 (shf (rJ t 6 0 8) (16 * c + i) d)), n) := by
  intro d
  induction d with
  | zero =>
    intro i t f hi hf h9
    obtain ⟨f, rfl⟩ : ∃ g, f = g + 1 := ⟨f - 1, by omega⟩
    have q : L ≤ i := by omega
    unfold fR_gone_12
    simp (disch := first | assumption | omega | exact b2i_01 _ | exact Or.inl rfl | exact Or.inr rfl) only [rf_0 h, rf_1 h, rf_2 h, rf_3 h, rf_4 h, rf_5 h, rf_6 h, rf_7 h, rf_8 h, rf_9 h, rf_10 h, rf_11 h, rf_12 h, rf_13 h, rf_14 h, rf_15 h, rf_16 h, rf_17 h, rf_18 h, rf_19 h, rf_20 h, rf_21 h, rf_22 h, rf_23 h, rf_24 h, rf_25 h, rf_26 h, rf_27 h, rf_28 h, rf_29 h, rf_30 h, rf_31 h, rf_32 h, rf_33 h, rp_1 h, rp_2 h, rp_7 h, rp_19 h, rp_29 h, rg_1 h, rg_2 h, rg_3 h, rg_4 h, rg_5 h, rg_6 h, rg_7 h, rg_8 h, rg_9 h, rg_10 h, rg_11 h, rg_12 h, rg_13 h, rg_14 h, rg_15 h, rg_16 h, rg_17 h, rg_18 h, rg_19 h, rg_20 h, rg_21 h, rg_22 h, rg_23 h, rg_24 h, rg_25 h, rg_26 h, rg_27 h, rg_28 h, rs_1 h, rs_2 h, rs_3 h, rs_4 h, rs_5 h, rs_6 h, rs_7 h, rs_8 h, rs_9 h, rs_10 h, rs_11 h, rs_12 h, rs_13 h, rs_14 h, rs_15 h, rs_16 h, rs_17 h, rs_18 h, rs_19 h, rs_20 h, rs_21 h, rs_22 h, rs_23 h, rs_24 h, rs_25 h, rs_26 h, rs_27 h, rs_28 h, ro h, rI_uI, rI_uJ, rI_uR, rI_wI, rI_wJ, rJ_uJ, rJ_uI, rJ_uR, rJ_wI, rJ_wJ, rR_uR, rR_uI, rR_uJ, rR_wI, rR_wJ, qI_wI, qI_wJ, qI_uI, qI_uJ, qI_uR, qJ_wJ, qJ_wI, qJ_uI, qJ_uJ, qJ_uR, Option.bind_some, zcV_s, zcI_s, zcL_s, zrI, zrV, zrL, nI_mul8, nI_mul16, nI_mul200, nI_1, eq_self, Nat.reduceEqDiff, and_true, true_and, and_false, false_and, and_self, ite_true, ite_false, ↓reduceIte, Nat.add_zero, if_true, if_false, b2i_t, b2i_f, o2i_s, o2i_n, nI_leI, nI_ltI, nI_eq, nI_eq0, nI_eqm1, b2i_eq0, h9, q]
    rw [shf_0, shf_0, uI_self, uJ_self]
  | succ d ih =>
    intro i t f hi hf h9
    obtain ⟨f, rfl⟩ : ∃ g, f = g + 1 := ⟨f - 1, by omega⟩
    have q : ¬ L ≤ i := by omega
    unfold fR_gone_12
    simp (disch := first | assumption | omega | exact b2i_01 _ | exact Or.inl rfl | exact Or.inr rfl) only [rf_0 h, rf_1 h, rf_2 h, rf_3 h, rf_4 h, rf_5 h, rf_6 h, rf_7 h, rf_8 h, rf_9 h, rf_10 h, rf_11 h, rf_12 h, rf_13 h, rf_14 h, rf_15 h, rf_16 h, rf_17 h, rf_18 h, rf_19 h, rf_20 h, rf_21 h, rf_22 h, rf_23 h, rf_24 h, rf_25 h, rf_26 h, rf_27 h, rf_28 h, rf_29 h, rf_30 h, rf_31 h, rf_32 h, rf_33 h, rp_1 h, rp_2 h, rp_7 h, rp_19 h, rp_29 h, rg_1 h, rg_2 h, rg_3 h, rg_4 h, rg_5 h, rg_6 h, rg_7 h, rg_8 h, rg_9 h, rg_10 h, rg_11 h, rg_12 h, rg_13 h, rg_14 h, rg_15 h, rg_16 h, rg_17 h, rg_18 h, rg_19 h, rg_20 h, rg_21 h, rg_22 h, rg_23 h, rg_24 h, rg_25 h, rg_26 h, rg_27 h, rg_28 h, rs_1 h, rs_2 h, rs_3 h, rs_4 h, rs_5 h, rs_6 h, rs_7 h, rs_8 h, rs_9 h, rs_10 h, rs_11 h, rs_12 h, rs_13 h, rs_14 h, rs_15 h, rs_16 h, rs_17 h, rs_18 h, rs_19 h, rs_20 h, rs_21 h, rs_22 h, rs_23 h, rs_24 h, rs_25 h, rs_26 h, rs_27 h, rs_28 h, ro h, rI_uI, rI_uJ, rI_uR, rI_wI, rI_wJ, rJ_uJ, rJ_uI, rJ_uR, rJ_wI, rJ_wJ, rR_uR, rR_uI, rR_uJ, rR_wI, rR_wJ, qI_wI, qI_wJ, qI_uI, qI_uJ, qI_uR, qJ_wJ, qJ_wI, qJ_uI, qJ_uJ, qJ_uR, Option.bind_some, zcV_s, zcI_s, zcL_s, zrI, zrV, zrL, nI_mul8, nI_mul16, nI_mul200, nI_1, eq_self, Nat.reduceEqDiff, and_true, true_and, and_false, false_and, and_self, ite_true, ite_false, ↓reduceIte, Nat.add_zero, if_true, if_false, b2i_t, b2i_f, o2i_s, o2i_n, nI_leI, nI_ltI, nI_eq, nI_eq0, nI_eqm1, b2i_eq0, h9, q, upd_fu, updL_fu]
    rw [ih (i + 1) _ f (by omega) (by omega) (by simp (disch := first | assumption | omega | exact b2i_01 _ | exact Or.inl rfl | exact Or.inr rfl) only [rf_0 h, rf_1 h, rf_2 h, rf_3 h, rf_4 h, rf_5 h, rf_6 h, rf_7 h, rf_8 h, rf_9 h, rf_10 h, rf_11 h, rf_12 h, rf_13 h, rf_14 h, rf_15 h, rf_16 h, rf_17 h, rf_18 h, rf_19 h, rf_20 h, rf_21 h, rf_22 h, rf_23 h, rf_24 h, rf_25 h, rf_26 h, rf_27 h, rf_28 h, rf_29 h, rf_30 h, rf_31 h, rf_32 h, rf_33 h, rp_1 h, rp_2 h, rp_7 h, rp_19 h, rp_29 h, rg_1 h, rg_2 h, rg_3 h, rg_4 h, rg_5 h, rg_6 h, rg_7 h, rg_8 h, rg_9 h, rg_10 h, rg_11 h, rg_12 h, rg_13 h, rg_14 h, rg_15 h, rg_16 h, rg_17 h, rg_18 h, rg_19 h, rg_20 h, rg_21 h, rg_22 h, rg_23 h, rg_24 h, rg_25 h, rg_26 h, rg_27 h, rg_28 h, rs_1 h, rs_2 h, rs_3 h, rs_4 h, rs_5 h, rs_6 h, rs_7 h, rs_8 h, rs_9 h, rs_10 h, rs_11 h, rs_12 h, rs_13 h, rs_14 h, rs_15 h, rs_16 h, rs_17 h, rs_18 h, rs_19 h, rs_20 h, rs_21 h, rs_22 h, rs_23 h, rs_24 h, rs_25 h, rs_26 h, rs_27 h, rs_28 h, ro h, rI_uI, rI_uJ, rI_uR, rI_wI, rI_wJ, rJ_uJ, rJ_uI, rJ_uR, rJ_wI, rJ_wJ, rR_uR, rR_uI, rR_uJ, rR_wI, rR_wJ, qI_wI, qI_wJ, qI_uI, qI_uJ, qI_uR, qJ_wJ, qJ_wI, qJ_uI, qJ_uJ, qJ_uR, Option.bind_some, zcV_s, zcI_s, zcL_s, zrI, zrV, zrL, nI_mul8, nI_mul16, nI_mul200, nI_1, eq_self, Nat.reduceEqDiff, and_true, true_and, and_false, false_and, and_self, ite_true, ite_false, ↓reduceIte, Nat.add_zero, if_true, if_false, b2i_t, b2i_f, o2i_s, o2i_n, nI_leI, nI_ltI, nI_eq, nI_eq0, nI_eqm1, b2i_eq0, h9])]
    simp (disch := first | assumption | omega | exact b2i_01 _ | exact Or.inl rfl | exact Or.inr rfl) only [rf_0 h, rf_1 h, rf_2 h, rf_3 h, rf_4 h, rf_5 h, rf_6 h, rf_7 h, rf_8 h, rf_9 h, rf_10 h, rf_11 h, rf_12 h, rf_13 h, rf_14 h, rf_15 h, rf_16 h, rf_17 h, rf_18 h, rf_19 h, rf_20 h, rf_21 h, rf_22 h, rf_23 h, rf_24 h, rf_25 h, rf_26 h, rf_27 h, rf_28 h, rf_29 h, rf_30 h, rf_31 h, rf_32 h, rf_33 h, rp_1 h, rp_2 h, rp_7 h, rp_19 h, rp_29 h, rg_1 h, rg_2 h, rg_3 h, rg_4 h, rg_5 h, rg_6 h, rg_7 h, rg_8 h, rg_9 h, rg_10 h, rg_11 h, rg_12 h, rg_13 h, rg_14 h, rg_15 h, rg_16 h, rg_17 h, rg_18 h, rg_19 h, rg_20 h, rg_21 h, rg_22 h, rg_23 h, rg_24 h, rg_25 h, rg_26 h, rg_27 h, rg_28 h, rs_1 h, rs_2 h, rs_3 h, rs_4 h, rs_5 h, rs_6 h, rs_7 h, rs_8 h, rs_9 h, rs_10 h, rs_11 h, rs_12 h, rs_13 h, rs_14 h, rs_15 h, rs_16 h, rs_17 h, rs_18 h, rs_19 h, rs_20 h, rs_21 h, rs_22 h, rs_23 h, rs_24 h, rs_25 h, rs_26 h, rs_27 h, rs_28 h, ro h, rI_uI, rI_uJ, rI_uR, rI_wI, rI_wJ, rJ_uJ, rJ_uI, rJ_uR, rJ_wI, rJ_wJ, rR_uR, rR_uI, rR_uJ, rR_wI, rR_wJ, qI_wI, qI_wJ, qI_uI, qI_uJ, qI_uR, qJ_wJ, qJ_wI, qJ_uI, qJ_uJ, qJ_uR, Option.bind_some, zcV_s, zcI_s, zcL_s, zrI, zrV, zrL, nI_mul8, nI_mul16, nI_mul200, nI_1, eq_self, Nat.reduceEqDiff, and_true, true_and, and_false, false_and, and_self, ite_true, ite_false, ↓reduceIte, Nat.add_zero, if_true, if_false, b2i_t, b2i_f, o2i_s, o2i_n, nI_leI, nI_ltI, nI_eq, nI_eq0, nI_eqm1, b2i_eq0, h9, uI_uJ, uI_uI, uJ_uJ]
    rw [← Nat.add_assoc, shf_s, shf_s]
set_option maxHeartbeats 2000000 in
theorem fR_gone_eq (h : pRf e) (M : Mod t s) {c k : Nat} (hc : c < 16) (hk : k < (s_q s c).length) (hq : ∀ c, (s_q s c).length ≤ 15) : ∃ t', fR_gone (pv e t) n (pL e 6 0 0) (nI c) (nI k) = some (.inl none, pv e t', n) ∧ Mod t' (u_q s (fu (s_q s) c ((s_q s c).eraseIdx k))) ∧ Fr6 t t' := by
  have hl := hq c
  obtain ⟨L, hL⟩ : ∃ L, (s_q s c).length = L + 1 := ⟨(s_q s c).length - 1, by omega⟩
  unfold fR_gone
  simp (disch := first | assumption | omega | exact b2i_01 _ | exact Or.inl rfl | exact Or.inr rfl) only [rf_0 h, rf_1 h, rf_2 h, rf_3 h, rf_4 h, rf_5 h, rf_6 h, rf_7 h, rf_8 h, rf_9 h, rf_10 h, rf_11 h, rf_12 h, rf_13 h, rf_14 h, rf_15 h, rf_16 h, rf_17 h, rf_18 h, rf_19 h, rf_20 h, rf_21 h, rf_22 h, rf_23 h, rf_24 h, rf_25 h, rf_26 h, rf_27 h, rf_28 h, rf_29 h, rf_30 h, rf_31 h, rf_32 h, rf_33 h, rp_1 h, rp_2 h, rp_7 h, rp_19 h, rp_29 h, rg_1 h, rg_2 h, rg_3 h, rg_4 h, rg_5 h, rg_6 h, rg_7 h, rg_8 h, rg_9 h, rg_10 h, rg_11 h, rg_12 h, rg_13 h, rg_14 h, rg_15 h, rg_16 h, rg_17 h, rg_18 h, rg_19 h, rg_20 h, rg_21 h, rg_22 h, rg_23 h, rg_24 h, rg_25 h, rg_26 h, rg_27 h, rg_28 h, rs_1 h, rs_2 h, rs_3 h, rs_4 h, rs_5 h, rs_6 h, rs_7 h, rs_8 h, rs_9 h, rs_10 h, rs_11 h, rs_12 h, rs_13 h, rs_14 h, rs_15 h, rs_16 h, rs_17 h, rs_18 h, rs_19 h, rs_20 h, rs_21 h, rs_22 h, rs_23 h, rs_24 h, rs_25 h, rs_26 h, rs_27 h, rs_28 h, ro h, rI_uI, rI_uJ, rI_uR, rI_wI, rI_wJ, rJ_uJ, rJ_uI, rJ_uR, rJ_wI, rJ_wJ, rR_uR, rR_uI, rR_uJ, rR_wI, rR_wJ, qI_wI, qI_wJ, qI_uI, qI_uJ, qI_uR, qJ_wJ, qJ_wI, qJ_uI, qJ_uJ, qJ_uR, Option.bind_some, zcV_s, zcI_s, zcL_s, zrI, zrV, zrL, nI_mul8, nI_mul16, nI_mul200, nI_1, eq_self, Nat.reduceEqDiff, and_true, true_and, and_false, false_and, and_self, ite_true, ite_false, ↓reduceIte, Nat.add_zero, if_true, if_false, b2i_t, b2i_f, o2i_s, o2i_n, M.c_f0, M.c_f2, M.c_f7, M.c_f19, M.c_f29, M.r1, M.r2, M.r3, M.r4, M.r5, M.r6, M.r9, M.r11, M.r12, M.r13, M.r14, M.r15, M.r16, M.r17, M.r18, M.r19, M.r20, M.r21, M.r22, M.r23, M.r24, nI_leI, nI_ltI, nI_eq, nI_eq0, nI_eqm1, b2i_eq0, upd_fu, hL, nI_pred]
  rw [fR_gone_12_eq h hc (L := L) (by omega) (L - k) k _ zF (by omega) (zF_big (by omega)) (by simp (disch := first | assumption | omega | exact b2i_01 _ | exact Or.inl rfl | exact Or.inr rfl) only [rf_0 h, rf_1 h, rf_2 h, rf_3 h, rf_4 h, rf_5 h, rf_6 h, rf_7 h, rf_8 h, rf_9 h, rf_10 h, rf_11 h, rf_12 h, rf_13 h, rf_14 h, rf_15 h, rf_16 h, rf_17 h, rf_18 h, rf_19 h, rf_20 h, rf_21 h, rf_22 h, rf_23 h, rf_24 h, rf_25 h, rf_26 h, rf_27 h, rf_28 h, rf_29 h, rf_30 h, rf_31 h, rf_32 h, rf_33 h, rp_1 h, rp_2 h, rp_7 h, rp_19 h, rp_29 h, rg_1 h, rg_2 h, rg_3 h, rg_4 h, rg_5 h, rg_6 h, rg_7 h, rg_8 h, rg_9 h, rg_10 h, rg_11 h, rg_12 h, rg_13 h, rg_14 h, rg_15 h, rg_16 h, rg_17 h, rg_18 h, rg_19 h, rg_20 h, rg_21 h, rg_22 h, rg_23 h, rg_24 h, rg_25 h, rg_26 h, rg_27 h, rg_28 h, rs_1 h, rs_2 h, rs_3 h, rs_4 h, rs_5 h, rs_6 h, rs_7 h, rs_8 h, rs_9 h, rs_10 h, rs_11 h, rs_12 h, rs_13 h, rs_14 h, rs_15 h, rs_16 h, rs_17 h, rs_18 h, rs_19 h, rs_20 h, rs_21 h, rs_22 h, rs_23 h, rs_24 h, rs_25 h, rs_26 h, rs_27 h, rs_28 h, ro h, rI_uI, rI_uJ, rI_uR, rI_wI, rI_wJ, rJ_uJ, rJ_uI, rJ_uR, rJ_wI, rJ_wJ, rR_uR, rR_uI, rR_uJ, rR_wI, rR_wJ, qI_wI, qI_wJ, qI_uI, qI_uJ, qI_uR, qJ_wJ, qJ_wI, qJ_uI, qJ_uJ, qJ_uR, Option.bind_some, zcV_s, zcI_s, zcL_s, zrI, zrV, zrL, nI_mul8, nI_mul16, nI_mul200, nI_1, eq_self, Nat.reduceEqDiff, and_true, true_and, and_false, false_and, and_self, ite_true, ite_false, ↓reduceIte, Nat.add_zero, if_true, if_false, b2i_t, b2i_f, o2i_s, o2i_n, nI_leI, nI_ltI, nI_eq, nI_eq0, nI_eqm1, b2i_eq0, fu_self])]
  simp (disch := first | assumption | omega | exact b2i_01 _ | exact Or.inl rfl | exact Or.inr rfl) only [rf_0 h, rf_1 h, rf_2 h, rf_3 h, rf_4 h, rf_5 h, rf_6 h, rf_7 h, rf_8 h, rf_9 h, rf_10 h, rf_11 h, rf_12 h, rf_13 h, rf_14 h, rf_15 h, rf_16 h, rf_17 h, rf_18 h, rf_19 h, rf_20 h, rf_21 h, rf_22 h, rf_23 h, rf_24 h, rf_25 h, rf_26 h, rf_27 h, rf_28 h, rf_29 h, rf_30 h, rf_31 h, rf_32 h, rf_33 h, rp_1 h, rp_2 h, rp_7 h, rp_19 h, rp_29 h, rg_1 h, rg_2 h, rg_3 h, rg_4 h, rg_5 h, rg_6 h, rg_7 h, rg_8 h, rg_9 h, rg_10 h, rg_11 h, rg_12 h, rg_13 h, rg_14 h, rg_15 h, rg_16 h, rg_17 h, rg_18 h, rg_19 h, rg_20 h, rg_21 h, rg_22 h, rg_23 h, rg_24 h, rg_25 h, rg_26 h, rg_27 h, rg_28 h, rs_1 h, rs_2 h, rs_3 h, rs_4 h, rs_5 h, rs_6 h, rs_7 h, rs_8 h, rs_9 h, rs_10 h, rs_11 h, rs_12 h, rs_13 h, rs_14 h, rs_15 h, rs_16 h, rs_17 h, rs_18 h, rs_19 h, rs_20 h, rs_21 h, rs_22 h, rs_23 h, rs_24 h, rs_25 h, rs_26 h, rs_27 h, rs_28 h, ro h, rI_uI, rI_uJ, rI_uR, rI_wI, rI_wJ, rJ_uJ, rJ_uI, rJ_uR, rJ_wI, rJ_wJ, rR_uR, rR_uI, rR_uJ, rR_wI, rR_wJ, qI_wI, qI_wJ, qI_uI, qI_uJ, qI_uR, qJ_wJ, qJ_wI, qJ_uI, qJ_uJ, qJ_uR, Option.bind_some, zcV_s, zcI_s, zcL_s, zrI, zrV, zrL, nI_mul8, nI_mul16, nI_mul200, nI_1, eq_self, Nat.reduceEqDiff, and_true, true_and, and_false, false_and, and_self, ite_true, ite_false, ↓reduceIte, Nat.add_zero, if_true, if_false, b2i_t, b2i_f, o2i_s, o2i_n, M.c_f0, M.c_f2, M.c_f7, M.c_f19, M.c_f29, M.r1, M.r2, M.r3, M.r4, M.r5, M.r6, M.r9, M.r11, M.r12, M.r13, M.r14, M.r15, M.r16, M.r17, M.r18, M.r19, M.r20, M.r21, M.r22, M.r23, M.r24, nI_leI, nI_ltI, nI_eq, nI_eq0, nI_eqm1, b2i_eq0]
  refine ⟨_, rfl, ?_, Fr6.uJ (Fr6.uI (Fr6.uI (Fr6.refl _)))⟩
  rw [uI_comm _ _ _ _ _ (by decide), ← uI_uJ]
  refine M.v_q ?_ ?_ ?_
  · intro c' hc'
    by_cases q : c' = c
    · rw [q, fu_self]; exact hL_erase (M.c_q7 c hc) (by omega)
    · rw [fu_ne _ _ q]; exact hL_shf_out (M.c_q7 c' hc') (by have := hq c'; omega)
  · intro c' hc'
    by_cases q : c' = c
    · rw [q, fu_self]; exact hL_erase (M.c_q8 c hc) (by omega)
    · rw [fu_ne _ _ q]; exact hL_shf_out (M.c_q8 c' hc') (by have := hq c'; omega)
  · exact hI_fu (fun l : List (Nat × Int64) => nI l.length) M.c_r9 (by show nI L = nI _; rw [List.length_eraseIdx, if_pos hk, hL]; rfl)
theorem u_q_q (s : zSt) (a b : Nat → List (Nat × Int64)) : u_q (u_q s a) b = u_q s b := rfl
theorem fu_fu {α : Type} (f : Nat → α) (k : Nat) (a b : α) : fu (fu f k a) k b = fu f k b := by
  funext j
  unfold fu
  by_cases q : j = k
  · rw [if_pos q, if_pos q]
  · rw [if_neg q, if_neg q, if_neg q]
theorem fu_id {α : Type} (f : Nat → α) (k : Nat) : fu f k (f k) = f := by
  funext j
  unfold fu
  by_cases q : j = k
  · rw [if_pos q, q]
  · rw [if_neg q]
set_option maxHeartbeats 2000000 in
theorem fR_close_44_eq (h : pRf e) {K9 : zV → Nat → Nat → Int32 → Int32 → Option zR} {c m : Nat} (hc : c < 16) (hm : m < 40) : ∀ (k : Nat) (t : pS) (s : zSt) (f : Nat), Mod t s → k ≤ (s_q s c).length → (∀ c, (s_q s c).length ≤ 15) → (∀ z ∈ s_q s c, z.1 ≤ 2) → k < f → ∃ t', fR_close_44 K9 f (pv e t) n (pL e 6 0 0) (nI m) (nI c) (nI k - 1) = K9 (pv e t') n (pL e 6 0 0) (nI m) (nI (c + 1)) ∧ Mod t' (u_q s (fu (s_q s) c (dnw (isB m) k (s_q s c)))) ∧ Fr6 t t' := by
  intro k
  induction k with
  | zero =>
    intro t s f M hk hq hkin hf
    obtain ⟨f, rfl⟩ : ∃ g, f = g + 1 := ⟨f - 1, by omega⟩
    unfold fR_close_44
    rw [if_pos (by decide), nI_1]
    refine ⟨t, rfl, ?_, Fr6.refl _⟩
    unfold dnw
    rw [fu_id, uu_q]
    exact M
  | succ k ih =>
    intro t s f M hk hq hkin hf
    obtain ⟨f, rfl⟩ : ∃ g, f = g + 1 := ⟨f - 1, by omega⟩
    have hl := hq c
    obtain ⟨z, hz⟩ : ∃ z, (s_q s c)[k]? = some z := ⟨_, List.getElem?_eq_getElem (by omega)⟩
    have hz2 := hkin z (List.mem_of_getElem? hz)
    have e7 := M.r7 hc hz
    have e8 := M.r8 hc hz
    unfold fR_close_44 fR_close_90
    rw [nI_pred, if_neg (nI_pos (by omega))]
    rw [show ∀ x : Int32, x + (-1) = x - 1 from fun x => (Int32.sub_eq_add_neg x 1).symm]
    simp (disch := first | assumption | omega | exact b2i_01 _ | exact Or.inl rfl | exact Or.inr rfl) only [rf_0 h, rf_1 h, rf_2 h, rf_3 h, rf_4 h, rf_5 h, rf_6 h, rf_7 h, rf_8 h, rf_9 h, rf_10 h, rf_11 h, rf_12 h, rf_13 h, rf_14 h, rf_15 h, rf_16 h, rf_17 h, rf_18 h, rf_19 h, rf_20 h, rf_21 h, rf_22 h, rf_23 h, rf_24 h, rf_25 h, rf_26 h, rf_27 h, rf_28 h, rf_29 h, rf_30 h, rf_31 h, rf_32 h, rf_33 h, rp_1 h, rp_2 h, rp_7 h, rp_19 h, rp_29 h, rg_1 h, rg_2 h, rg_3 h, rg_4 h, rg_5 h, rg_6 h, rg_7 h, rg_8 h, rg_9 h, rg_10 h, rg_11 h, rg_12 h, rg_13 h, rg_14 h, rg_15 h, rg_16 h, rg_17 h, rg_18 h, rg_19 h, rg_20 h, rg_21 h, rg_22 h, rg_23 h, rg_24 h, rg_25 h, rg_26 h, rg_27 h, rg_28 h, rs_1 h, rs_2 h, rs_3 h, rs_4 h, rs_5 h, rs_6 h, rs_7 h, rs_8 h, rs_9 h, rs_10 h, rs_11 h, rs_12 h, rs_13 h, rs_14 h, rs_15 h, rs_16 h, rs_17 h, rs_18 h, rs_19 h, rs_20 h, rs_21 h, rs_22 h, rs_23 h, rs_24 h, rs_25 h, rs_26 h, rs_27 h, rs_28 h, ro h, rI_uI, rI_uJ, rI_uR, rI_wI, rI_wJ, rJ_uJ, rJ_uI, rJ_uR, rJ_wI, rJ_wJ, rR_uR, rR_uI, rR_uJ, rR_wI, rR_wJ, qI_wI, qI_wJ, qI_uI, qI_uJ, qI_uR, qJ_wJ, qJ_wI, qJ_uI, qJ_uJ, qJ_uR, Option.bind_some, zcV_s, zcI_s, zcL_s, zrI, zrV, zrL, nI_mul8, nI_mul16, nI_mul200, nI_1, eq_self, Nat.reduceEqDiff, and_true, true_and, and_false, false_and, and_self, ite_true, ite_false, ↓reduceIte, Nat.add_zero, if_true, if_false, b2i_t, b2i_f, o2i_s, o2i_n, M.c_f0, M.c_f2, M.c_f7, M.c_f19, M.c_f29, M.r1, M.r2, M.r3, M.r4, M.r5, M.r6, M.r9, M.r11, M.r12, M.r13, M.r14, M.r15, M.r16, M.r17, M.r18, M.r19, M.r20, M.r21, M.r22, M.r23, M.r24, nI_leI, nI_ltI, nI_eq, nI_eq0, nI_eqm1, b2i_eq0, e7, e8, show (1 : Int32) = nI 1 from rfl, lg_cmp_eq, nI_l (show m < 2 ^ 31 by omega)]
    unfold dnw
    rw [hz, Option.any_some]
    by_cases q1 : z.1 = 1
    · rw [if_pos q1]
      by_cases q2 : z.2 = lN m
      · rw [if_pos q2]
        obtain ⟨t1, h1, M1, F1⟩ := fR_gone_eq (n := n) h M (k := k) hc (by omega) hq
        rw [h1]
        simp only [zcV_s]
        obtain ⟨t2, h2, M2, F2⟩ := ih t1 _ f M1 (by rw [su_q, fu_self, List.length_eraseIdx]; split <;> omega) (by
          intro c'
          rw [su_q]
          by_cases q : c' = c
          · rw [q, fu_self, List.length_eraseIdx]; split <;> omega
          · rw [fu_ne _ _ q]; exact hq c') (by
          rw [su_q, fu_self]
          intro y hy
          exact hkin y (List.mem_of_mem_eraseIdx hy)) (by omega)
        refine ⟨t2, h2, ?_, F1.trans F2⟩
        rw [su_q, fu_self, u_q_q, fu_fu] at M2
        rw [if_pos (by unfold isB; simp [q1, q2])]
        exact M2
      · rw [if_neg q2]
        obtain ⟨t2, h2, M2, F2⟩ := ih t s f M (by omega) hq hkin (by omega)
        refine ⟨t2, h2, ?_, F2⟩
        rw [if_neg (by unfold isB; simp [q2])]
        exact M2
    · rw [if_neg q1]
      obtain ⟨t2, h2, M2, F2⟩ := ih t s f M (by omega) hq hkin (by omega)
      refine ⟨t2, h2, ?_, F2⟩
      rw [if_neg (by unfold isB; simp [q1])]
      exact M2
end PM
