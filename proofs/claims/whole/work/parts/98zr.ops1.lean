/-! the calls that only read -/
theorem st_state (a0 : Int32) : LLong InvW (fun V n q => fB_state V n q a0) (fun V n m => fR_state V n m a0) [("java/lang/IndexOutOfBoundsException", 1)] := op_long fun e t s n S => by
  obtain ⟨hR, hM, g, hv, hG⟩ := S
  have w := hv.1
  have hN8 := w.N8; have hC16 := w.C; have hM40 := w.M
  rcases bad_or a0 (N := s_N s) (by omega) with hx | ⟨j, hj, rfl⟩
  · exact Or.inr ⟨_, _, _, fB_state_b g w hx, cI1, fun E t1 n1 h M => fR_state_b h M w hx⟩
  · exact Or.inl ⟨_, s, fB_state_g g w hj, hv, MC.rfl', fun E t1 n1 h M => fR_state_g h M w hj⟩
theorem st_condition (a0 : Int32) : LInt InvW (fun V n q => fB_condition V n q a0) (fun V n m => fR_condition V n m a0) [("java/lang/IndexOutOfBoundsException", 1)] := op_int fun e t s n S => by
  obtain ⟨hR, hM, g, hv, hG⟩ := S
  have w := hv.1
  have hN8 := w.N8; have hC16 := w.C; have hM40 := w.M
  rcases bad_or a0 (N := s_M s) (by omega) with hx | ⟨j, hj, rfl⟩
  · exact Or.inr ⟨_, _, _, fB_condition_b g w hx, cI1, fun E t1 n1 h M => fR_condition_b h M w hx⟩
  · exact Or.inl ⟨_, s, fB_condition_g g w hj, hv, MC.rfl', fun E t1 n1 h M => fR_condition_g h M w hj⟩
theorem st_acknowledged (a0 : Int32) : LInt InvW (fun V n q => fB_acknowledged V n q a0) (fun V n m => fR_acknowledged V n m a0) [("java/lang/IndexOutOfBoundsException", 1)] := op_int fun e t s n S => by
  obtain ⟨hR, hM, g, hv, hG⟩ := S
  have w := hv.1
  have hN8 := w.N8; have hC16 := w.C; have hM40 := w.M
  rcases bad_or a0 (N := s_M s) (by omega) with hx | ⟨j, hj, rfl⟩
  · exact Or.inr ⟨_, _, _, fB_acknowledged_b g w hx, cI1, fun E t1 n1 h M => fR_acknowledged_b h M w hx⟩
  · exact Or.inl ⟨_, s, fB_acknowledged_g g w hj, hv, MC.rfl', fun E t1 n1 h M => fR_acknowledged_g h M w hj⟩
theorem st_held (a0 : Int32) : LInt InvW (fun V n q => fB_held V n q a0) (fun V n m => fR_held V n m a0) [("java/lang/IndexOutOfBoundsException", 1)] := op_int fun e t s n S => by
  obtain ⟨hR, hM, g, hv, hG⟩ := S
  have w := hv.1
  have hN8 := w.N8; have hC16 := w.C; have hM40 := w.M
  rcases bad_or a0 (N := s_C s) (by omega) with hx | ⟨j, hj, rfl⟩
  · exact Or.inr ⟨_, _, _, fB_held_b g w hx, cI1, fun E t1 n1 h M => fR_held_b h M w hx⟩
  · exact Or.inl ⟨_, s, fB_held_g g w hj, hv, MC.rfl', fun E t1 n1 h M => fR_held_g h M w hj⟩
theorem st_waiting (a0 : Int32) : LInt InvW (fun V n q => fB_waiting V n q a0) (fun V n m => fR_waiting V n m a0) [("java/lang/IndexOutOfBoundsException", 1)] := op_int fun e t s n S => by
  obtain ⟨hR, hM, g, hv, hG⟩ := S
  have w := hv.1
  have hN8 := w.N8; have hC16 := w.C; have hM40 := w.M
  rcases bad_or a0 (N := s_C s) (by omega) with hx | ⟨j, hj, rfl⟩
  · exact Or.inr ⟨_, _, _, fB_waiting_b g w hx, cI1, fun E t1 n1 h M => fR_waiting_b h M w hx⟩
  · cases hf : s_fr s j with
    | none => exact Or.inl ⟨_, s, fB_waiting_s g w hj hf, hv, MC.rfl', fun E t1 n1 h M => fR_waiting_s h M w hj hf⟩
    | some k => exact Or.inl ⟨_, s, fB_waiting_l g w hj hf, hv, MC.rfl', fun E t1 n1 h M => fR_waiting_l h M w hj hf⟩
theorem st_kind (a0 : Int32) (a1 : Int32) : LInt InvW (fun V n q => fB_kind V n q a0 a1) (fun V n m => fR_kind V n m a0 a1) [("java/lang/IndexOutOfBoundsException", 1)] := op_int fun e t s n S => by
  obtain ⟨hR, hM, g, hv, hG⟩ := S
  have w := hv.1
  have hN8 := w.N8; have hC16 := w.C; have hM40 := w.M
  rcases bad_or a0 (N := s_C s) (by omega) with hx | ⟨j, hj, rfl⟩
  · exact Or.inr ⟨_, _, _, fB_kind_b g w a1 hx, cI1, fun E t1 n1 h M => fR_kind_b h M w a1 hx⟩
  · cases hf : s_fr s j with
    | none => exact Or.inr ⟨_, _, _, fB_kind_s g w a1 hj hf, cI1, fun E t1 n1 h M => fR_kind_s h M w a1 hj hf⟩
    | some k =>
      have hq := w.q j
      rcases bad_or a1 (N := (s_q s j).length) (by omega) with hy | ⟨i, hi, rfl⟩
      · exact Or.inr ⟨_, _, _, fB_kind_l g w hj hf hy, cI1, fun E t1 n1 h M => fR_kind_l h M w hj hf hy⟩
      · have hz : (s_q s j)[i]? = some (s_q s j)[i] := List.getElem?_eq_getElem hi
        exact Or.inl ⟨_, s, fB_kind_g g w hj hf hz, hv, MC.rfl', fun E t1 n1 h M => fR_kind_g h M w hj hf hz⟩
theorem st_value (a0 : Int32) (a1 : Int32) : LLong InvW (fun V n q => fB_value V n q a0 a1) (fun V n m => fR_value V n m a0 a1) [("java/lang/IndexOutOfBoundsException", 1)] := op_long fun e t s n S => by
  obtain ⟨hR, hM, g, hv, hG⟩ := S
  have w := hv.1
  have hN8 := w.N8; have hC16 := w.C; have hM40 := w.M
  rcases bad_or a0 (N := s_C s) (by omega) with hx | ⟨j, hj, rfl⟩
  · exact Or.inr ⟨_, _, _, fB_value_b g w a1 hx, cI1, fun E t1 n1 h M => fR_value_b h M w a1 hx⟩
  · cases hf : s_fr s j with
    | none => exact Or.inr ⟨_, _, _, fB_value_s g w a1 hj hf, cI1, fun E t1 n1 h M => fR_value_s h M w a1 hj hf⟩
    | some k =>
      have hq := w.q j
      rcases bad_or a1 (N := (s_q s j).length) (by omega) with hy | ⟨i, hi, rfl⟩
      · exact Or.inr ⟨_, _, _, fB_value_l g w hj hf hy, cI1, fun E t1 n1 h M => fR_value_l h M w hj hf hy⟩
      · have hz : (s_q s j)[i]? = some (s_q s j)[i] := List.getElem?_eq_getElem hi
        exact Or.inl ⟨_, s, fB_value_g g w hj hf hz, hv, MC.rfl', fun E t1 n1 h M => fR_value_g h M w hj hf hz⟩
theorem st_kept (a0 : Int32) (a1 : Int32) : LLong InvW (fun V n q => fB_kept V n q a0 a1) (fun V n m => fR_kept V n m a0 a1) [("java/lang/IndexOutOfBoundsException", 1), ("java/lang/IllegalStateException", 2)] := op_long fun e t s n S => by
  obtain ⟨hR, hM, g, hv, hG⟩ := S
  have w := hv.1
  have hN8 := w.N8; have hC16 := w.C; have hM40 := w.M
  rcases bad_or a0 (N := s_M s) (by omega) with hx | ⟨i, hi, rfl⟩
  · exact Or.inr ⟨_, _, _, fB_kept_b1 g w a1 hx, cI2, fun E t1 n1 h M => fR_kept_b1 h M w a1 hx⟩
  · rcases bad_or a1 (N := s_N s) (by omega) with hy | ⟨j, hj, rfl⟩
    · exact Or.inr ⟨_, _, _, fB_kept_b2 g w hi hy, cI2, fun E t1 n1 h M => fR_kept_b2 h M w hi hy⟩
    · cases hk : s_kept s i j with
      | false => exact Or.inr ⟨_, _, _, fB_kept_n g w hi hj hk, cS2, fun E t1 n1 h M => fR_kept_n h M w hi hj hk⟩
      | true => exact Or.inl ⟨_, s, fB_kept_g g w hi hj hk, hv, MC.rfl', fun E t1 n1 h M => fR_kept_g h M w hi hj hk⟩
theorem st_keptRows (a0 : Int32) (a1 : Int32) : LInt InvW (fun V n q => fB_keptRows V n q a0 a1) (fun V n m => fR_keptRows V n m a0 a1) [("java/lang/IndexOutOfBoundsException", 1), ("java/lang/IllegalStateException", 2)] := op_int fun e t s n S => by
  obtain ⟨hR, hM, g, hv, hG⟩ := S
  have w := hv.1
  have hN8 := w.N8; have hC16 := w.C; have hM40 := w.M
  rcases bad_or a0 (N := s_M s) (by omega) with hx | ⟨i, hi, rfl⟩
  · exact Or.inr ⟨_, _, _, fB_keptRows_b1 g w a1 hx, cI2, fun E t1 n1 h M => fR_keptRows_b1 h M w a1 hx⟩
  · rcases bad_or a1 (N := s_N s) (by omega) with hy | ⟨j, hj, rfl⟩
    · exact Or.inr ⟨_, _, _, fB_keptRows_b2 g w hi hy, cI2, fun E t1 n1 h M => fR_keptRows_b2 h M w hi hy⟩
    · cases hk : s_kept s i j with
      | false => exact Or.inr ⟨_, _, _, fB_keptRows_n g w hi hj hk, cS2, fun E t1 n1 h M => fR_keptRows_n h M w hi hj hk⟩
      | true => exact Or.inl ⟨_, s, fB_keptRows_g g w hi hj hk, hv, MC.rfl', fun E t1 n1 h M => fR_keptRows_g h M w hi hj hk⟩
theorem st_position (a0 : Int32) (a1 : Int32) : LInt InvW (fun V n q => fB_position V n q a0 a1) (fun V n m => fR_position V n m a0 a1) [("java/lang/IndexOutOfBoundsException", 1)] := op_int fun e t s n S => by
  obtain ⟨hR, hM, g, hv, hG⟩ := S
  have w := hv.1
  have hN8 := w.N8; have hC16 := w.C; have hM40 := w.M
  rcases bad_or a0 (N := s_M s) (by omega) with hx | ⟨i, hi, rfl⟩
  · exact Or.inr ⟨_, _, _, fB_position_b1 g w a1 hx, cI1, fun E t1 n1 h M => fR_position_b1 h M w a1 hx⟩
  · rcases bad_or a1 (N := s_C s) (by omega) with hy | ⟨j, hj, rfl⟩
    · exact Or.inr ⟨_, _, _, fB_position_b2 g w hi hy, cI1, fun E t1 n1 h M => fR_position_b2 h M w hi hy⟩
    · cases hf : s_fr s j with
      | some k => exact Or.inr ⟨_, _, _, fB_position_n g w hi hj hf, cI1, fun E t1 n1 h M => fR_position_n h M w hi hj hf⟩
      | none => exact Or.inl ⟨_, s, fB_position_g g w hi hj hf, hv, MC.rfl', fun E t1 n1 h M => fR_position_g h M w hi hj hf⟩
theorem i32_two {y : Int32} {k : Nat} (hk : k < 2 ^ 31) (h : ¬ (y < 0 ∨ nI k < y)) : ∃ j, j ≤ k ∧ y = nI j := by
  have h0 : ¬ y < 0 := fun z => h (Or.inl z)
  obtain ⟨j, hj, rfl⟩ := nI_of h0
  refine ⟨j, ?_, rfl⟩
  by_cases q : j ≤ k
  · exact q
  · exact absurd (Or.inr (nI_lt (by omega) hj)) h
theorem st_task (a0 : Int32) (a1 : Int32) : LInt InvW (fun V n q => fB_task V n q a0 a1) (fun V n m => fR_task V n m a0 a1) [("java/lang/IndexOutOfBoundsException", 1), ("java/lang/IllegalArgumentException", 2)] := op_int fun e t s n S => by
  obtain ⟨hR, hM, g, hv, hG⟩ := S
  have w := hv.1
  have hN8 := w.N8; have hC16 := w.C; have hM40 := w.M
  rcases bad_or a0 (N := s_N s) (by omega) with hx | ⟨j, hj, rfl⟩
  · exact Or.inr ⟨_, _, _, fB_task_b g w a1 hx, cI6, fun E t1 n1 h M => fR_task_b h M w a1 hx⟩
  · by_cases hy : a1 < 0 ∨ 1 < a1
    · exact Or.inr ⟨_, _, _, fB_task_2 g w hj hy, cA6, fun E t1 n1 h M => fR_task_2 h M w hj hy⟩
    · obtain ⟨i, hi, rfl⟩ := i32_two (k := 1) (by decide) hy
      rcases (show i = 0 ∨ i = 1 by omega) with rfl | rfl
      · exact Or.inl ⟨_, s, fB_task_0 g w hj, hv, MC.rfl', fun E t1 n1 h M => fR_task_0 h M w hj⟩
      · exact Or.inl ⟨_, s, fB_task_1 g w hj, hv, MC.rfl', fun E t1 n1 h M => fR_task_1 h M w hj⟩
theorem st_told (a0 : Int32) : LInt InvW (fun V n q => fB_told V n q a0) (fun V n m => fR_told V n m a0) [("java/lang/IllegalArgumentException", 1)] := op_int fun e t s n S => by
  obtain ⟨hR, hM, g, hv, hG⟩ := S
  have w := hv.1
  have hN8 := w.N8; have hC16 := w.C; have hM40 := w.M
  by_cases hy : a0 < 0 ∨ 3 < a0
  · exact Or.inr ⟨_, _, _, fB_told_b g hy, cA5, fun E t1 n1 h M => fR_told_b h M w hy⟩
  · obtain ⟨i, hi, rfl⟩ := i32_two (k := 3) (by decide) hy
    rcases (show i = 0 ∨ i = 1 ∨ i = 2 ∨ i = 3 by omega) with rfl | rfl | rfl | rfl
    · exact Or.inl ⟨_, s, fB_told_0 g, hv, MC.rfl', fun E t1 n1 h M => fR_told_0 h M w⟩
    · exact Or.inl ⟨_, s, fB_told_1 g, hv, MC.rfl', fun E t1 n1 h M => fR_told_1 h M w⟩
    · exact Or.inl ⟨_, s, fB_told_2 g, hv, MC.rfl', fun E t1 n1 h M => fR_told_2 h M w⟩
    · exact Or.inl ⟨_, s, fB_told_3 g, hv, MC.rfl', fun E t1 n1 h M => fR_told_3 h M w⟩
theorem st_exact (a0 : Int32) : LBool InvW (fun V n q => fB_exact V n q a0) (fun V n m => fR_exact V n m a0) [("java/lang/IndexOutOfBoundsException", 1), ("java/lang/IllegalStateException", 2)] := op_bool fun e t s n S => by
  obtain ⟨hR, hM, g, hv, hG⟩ := S
  have w := hv.1
  have hN8 := w.N8; have hC16 := w.C; have hM40 := w.M
  rcases bad_or a0 (N := s_M s) (by omega) with hx | ⟨j, hj, rfl⟩
  · exact Or.inr ⟨_, _, _, fB_exact_b g hx, cI2, fun E t1 n1 h M => fR_exact_b h M hx⟩
  · by_cases hc : s_cond s j = 1
    · refine Or.inl ⟨_, s, fB_exact_g g w hj hc, hv, MC.rfl', fun E t1 n1 h M => ?_⟩
      have h1 := fR_exact_g (n := n1) h M w hj hc (fun c hcc _ => (hv.2.2.2.2.2.2.1 c hcc).2.1 j hj)
      rw [exact_same hv j (rJ t1 6 0 27, rJ t1 6 0 28) (rJ t 0 0 4, rI t 0 0 5)] at h1
      exact h1
    · exact Or.inr ⟨_, _, _, fB_exact_n g w hj hc, cS2, fun E t1 n1 h M => fR_exact_n h M w hj hc⟩
