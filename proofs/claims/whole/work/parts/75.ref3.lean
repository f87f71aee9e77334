/-! the reference's writing methods: rows for arrays that were written -/
theorem fu_self {α : Type} (f : Nat → α) (k : Nat) (v : α) : fu f k v k = v := if_pos rfl
theorem fu_ne {α : Type} (f : Nat → α) {k j : Nat} (v : α) (h : j ≠ k) : fu f k v j = f j := if_neg h
theorem upd_fu (f : Nat → Int32) (k : Nat) (v : Int32) : upd f k v = fu f k v := rfl
theorem updL_fu (f : Nat → Int64) (k : Nat) (v : Int64) : vp_updL f k v = fu f k v := rfl
theorem hI_fu {α β : Type} (G : β → α) {f : Nat → α} {n k : Nat} {g : Nat → β} {v : α} {a : β} (H : hI f n (fun x => G (g x))) (hv : v = G a) : hI (fu f k v) n (fun x => G (fu g k a x)) := by
  intro x hx
  show (if x = k then v else f x) = G (if x = k then a else g x)
  by_cases q : x = k
  · rw [if_pos q, if_pos q, hv]
  · rw [if_neg q, if_neg q]; exact H x hx
theorem mulx {w m x m' x' : Nat} (hx : x < w) (hx' : x' < w) (h : w * m + x = w * m' + x') : m = m' ∧ x = x' := by
  have h1 : (w * m + x) / w = m := by
    rw [Nat.mul_add_div (by omega), Nat.div_eq_of_lt hx, Nat.add_zero]
  have h2 : (w * m' + x') / w = m' := by
    rw [Nat.mul_add_div (by omega), Nat.div_eq_of_lt hx', Nat.add_zero]
  have : m = m' := by rw [← h1, h, h2]
  subst this
  exact ⟨rfl, by omega⟩
theorem h2_fu {α β : Type} (G : β → α) {f : Nat → α} {w a b k j : Nat} {g : Nat → Nat → β} {v : α} {y : β} (H : h2 f w a b (fun m x => G (g m x))) (hb : b ≤ w) (hj : j < b) (hv : v = G y) : h2 (fu f (w * k + j) v) w a b (fun m x => G (fu2 g k j y m x)) := by
  intro m x hm hx
  show (if w * m + x = w * k + j then v else f (w * m + x)) = G (if m = k ∧ x = j then y else g m x)
  by_cases q : m = k ∧ x = j
  · rw [if_pos (by rw [q.1, q.2]), if_pos q, hv]
  · rw [if_neg (fun z => q (mulx (by omega) (by omega) z)), if_neg q]; exact H m x hm hx
theorem hL_snoc {α β : Type} {f : Nat → α} {o k : Nat} {l : List β} {g : β → α} {z : β} {v : α} (H : hL f o l g) (hk : k = o + l.length) (hv : v = g z) : hL (fu f k v) o (l ++ [z]) g := by
  intro i y hi
  unfold fu
  by_cases q : i = l.length
  · rw [if_pos (by omega)]
    rw [q, List.getElem?_append_right (Nat.le_refl _), Nat.sub_self] at hi
    cases hi
    exact hv
  · have hlt : i < (l ++ [z]).length := (List.getElem?_eq_some_iff.mp hi).1
    rw [List.length_append, List.length_singleton] at hlt
    rw [if_neg (by omega)]
    rw [List.getElem?_append_left (by omega)] at hi
    exact H i y hi
theorem hL_out {α β : Type} {f : Nat → α} {o k : Nat} {l : List β} {g : β → α} {v : α} (H : hL f o l g) (hk : k < o ∨ o + l.length ≤ k) : hL (fu f k v) o l g := by
  intro i y hi
  have hlt := (List.getElem?_eq_some_iff.mp hi).1
  unfold fu
  rw [if_neg (by omega)]
  exact H i y hi
theorem hI_len {f : Nat → Int32} {n : Nat} {g : Nat → Nat} (H : hI f n (fun x => nI (g x))) (k a : Nat) : hI (fu f k (nI a)) n (fun x => nI (fu g k a x)) := hI_fu nI H rfl
section PM
variable {e : pE} {t : pS} {s : zSt} {n : Nat}
set_option maxHeartbeats 2000000 in
theorem fR_sent_eq (h : pRf e) (M : Mod t s) (hA : (s_acks s).length ≤ 1000) (m x : Nat) : ∃ t', fR_sent (pv e t) n (pL e 6 0 0) (nI m) (nI x) = some (.inl none, pv e t', n) ∧ Mod t' (u_acks s (s_acks s ++ [(m, x)])) ∧ Fr6 t t' := by
  unfold fR_sent
  simp (disch := first | assumption | omega | exact b2i_01 _ | exact Or.inl rfl | exact Or.inr rfl) only [rf_0 h, rf_1 h, rf_2 h, rf_3 h, rf_4 h, rf_5 h, rf_6 h, rf_7 h, rf_8 h, rf_9 h, rf_10 h, rf_11 h, rf_12 h, rf_13 h, rf_14 h, rf_15 h, rf_16 h, rf_17 h, rf_18 h, rf_19 h, rf_20 h, rf_21 h, rf_22 h, rf_23 h, rf_24 h, rf_25 h, rf_26 h, rf_27 h, rf_28 h, rf_29 h, rf_30 h, rf_31 h, rf_32 h, rf_33 h, rp_1 h, rp_2 h, rp_7 h, rp_19 h, rp_29 h, rg_1 h, rg_2 h, rg_3 h, rg_4 h, rg_5 h, rg_6 h, rg_7 h, rg_8 h, rg_9 h, rg_10 h, rg_11 h, rg_12 h, rg_13 h, rg_14 h, rg_15 h, rg_16 h, rg_17 h, rg_18 h, rg_19 h, rg_20 h, rg_21 h, rg_22 h, rg_23 h, rg_24 h, rg_25 h, rg_26 h, rg_27 h, rg_28 h, rs_1 h, rs_2 h, rs_3 h, rs_4 h, rs_5 h, rs_6 h, rs_7 h, rs_8 h, rs_9 h, rs_10 h, rs_11 h, rs_12 h, rs_13 h, rs_14 h, rs_15 h, rs_16 h, rs_17 h, rs_18 h, rs_19 h, rs_20 h, rs_21 h, rs_22 h, rs_23 h, rs_24 h, rs_25 h, rs_26 h, rs_27 h, rs_28 h, ro h, rI_uI, rI_uJ, rI_uR, rI_wI, rI_wJ, rJ_uJ, rJ_uI, rJ_uR, rJ_wI, rJ_wJ, rR_uR, rR_uI, rR_uJ, rR_wI, rR_wJ, qI_wI, qI_wJ, qI_uI, qI_uJ, qI_uR, qJ_wJ, qJ_wI, qJ_uI, qJ_uJ, qJ_uR, Option.bind_some, zcV_s, zcI_s, zcL_s, zrI, zrV, zrL, nI_mul8, nI_mul16, nI_mul200, nI_1, eq_self, Nat.reduceEqDiff, and_true, true_and, and_false, false_and, and_self, ite_true, ite_false, ↓reduceIte, Nat.add_zero, if_true, if_false, b2i_t, b2i_f, o2i_s, o2i_n, M.c_f0, M.c_f2, M.c_f7, M.c_f19, M.c_f29, M.r1, M.r2, M.r3, M.r4, M.r5, M.r6, M.r9, M.r11, M.r12, M.r13, M.r14, M.r15, M.r16, M.r17, M.r18, M.r19, M.r20, M.r21, M.r22, M.r23, M.r24, nI_leI, nI_ltI, nI_eq, nI_eq0, nI_eqm1, b2i_eq0, upd_fu]
  refine ⟨_, rfl, M.v_acks (hL_snoc M.c_q25 (Nat.zero_add _).symm rfl) (hL_snoc M.c_q26 (Nat.zero_add _).symm rfl) (by rw [List.length_append]; rfl), Fr6.wI (by decide) (Fr6.uI (Fr6.uI (Fr6.refl _)))⟩
set_option maxHeartbeats 2000000 in
theorem fR_keep_eq (h : pRf e) (M : Mod t s) (hA : (s_acks s).length ≤ 1000) {m x : Nat} (hm : m < 40) (hx : x < 8) : ∃ t', fR_keep (pv e t) n (pL e 6 0 0) (nI m) (nI x) = some (.inl none, pv e t', n) ∧ Mod t' (keepS s m x) ∧ Fr6 t t' := by
  unfold fR_keep
  simp (disch := first | assumption | omega | exact b2i_01 _ | exact Or.inl rfl | exact Or.inr rfl) only [rf_0 h, rf_1 h, rf_2 h, rf_3 h, rf_4 h, rf_5 h, rf_6 h, rf_7 h, rf_8 h, rf_9 h, rf_10 h, rf_11 h, rf_12 h, rf_13 h, rf_14 h, rf_15 h, rf_16 h, rf_17 h, rf_18 h, rf_19 h, rf_20 h, rf_21 h, rf_22 h, rf_23 h, rf_24 h, rf_25 h, rf_26 h, rf_27 h, rf_28 h, rf_29 h, rf_30 h, rf_31 h, rf_32 h, rf_33 h, rp_1 h, rp_2 h, rp_7 h, rp_19 h, rp_29 h, rg_1 h, rg_2 h, rg_3 h, rg_4 h, rg_5 h, rg_6 h, rg_7 h, rg_8 h, rg_9 h, rg_10 h, rg_11 h, rg_12 h, rg_13 h, rg_14 h, rg_15 h, rg_16 h, rg_17 h, rg_18 h, rg_19 h, rg_20 h, rg_21 h, rg_22 h, rg_23 h, rg_24 h, rg_25 h, rg_26 h, rg_27 h, rg_28 h, rs_1 h, rs_2 h, rs_3 h, rs_4 h, rs_5 h, rs_6 h, rs_7 h, rs_8 h, rs_9 h, rs_10 h, rs_11 h, rs_12 h, rs_13 h, rs_14 h, rs_15 h, rs_16 h, rs_17 h, rs_18 h, rs_19 h, rs_20 h, rs_21 h, rs_22 h, rs_23 h, rs_24 h, rs_25 h, rs_26 h, rs_27 h, rs_28 h, ro h, rI_uI, rI_uJ, rI_uR, rI_wI, rI_wJ, rJ_uJ, rJ_uI, rJ_uR, rJ_wI, rJ_wJ, rR_uR, rR_uI, rR_uJ, rR_wI, rR_wJ, qI_wI, qI_wJ, qI_uI, qI_uJ, qI_uR, qJ_wJ, qJ_wI, qJ_uI, qJ_uJ, qJ_uR, Option.bind_some, zcV_s, zcI_s, zcL_s, zrI, zrV, zrL, nI_mul8, nI_mul16, nI_mul200, nI_1, eq_self, Nat.reduceEqDiff, and_true, true_and, and_false, false_and, and_self, ite_true, ite_false, ↓reduceIte, Nat.add_zero, if_true, if_false, b2i_t, b2i_f, o2i_s, o2i_n, M.c_f0, M.c_f2, M.c_f7, M.c_f19, M.c_f29, M.r1, M.r2, M.r3, M.r4, M.r5, M.r6, M.r9, M.r11, M.r12, M.r13, M.r14, M.r15, M.r16, M.r17, M.r18, M.r19, M.r20, M.r21, M.r22, M.r23, M.r24, nI_leI, nI_ltI, nI_eq, nI_eq0, nI_eqm1, b2i_eq0, upd_fu, updL_fu]
  have M1 := M.v_kept (h2_fu b2i (k := m) (y := true) M.c_r19 (by omega) hx rfl)
  have M2 := M1.v_kEnd (h2_fu b2i (k := m) (y := s_ended s x) M.c_r20 (by omega) hx rfl)
  have M3 := M2.v_kSum (h2_fu (fun z => z) (k := m) (y := s_sum s x) M.c_r21 (by omega) hx rfl)
  have M4 := M3.v_kRows (h2_fu (fun z => z) (k := m) (y := s_rows s x) M.c_r22 (by omega) hx rfl)
  obtain ⟨t', h1, h2, h3⟩ := fR_sent_eq (n := n) h M4 hA m x
  refine ⟨t', ?_, h2, Fr6.trans (Fr6.uI (Fr6.uJ (Fr6.uI (Fr6.uI (Fr6.refl _))))) h3⟩
  rw [← b2i_t, h1]
  rfl
end PM
