/-! the 23 helpers -/
def hOut (V : zV) (o : Nat) (v : Int64) : zV := match V o with
  | some (.inl (t, N, .inr (.inl f))) => z_up V o (.inl (t, N, .inr (.inl (vp_updL f 0 v))))
  | _ => V
def hlong (v : Option Value) : Int64 := match v with
  | some (.int i) => i.toInt64
  | some (.long j) => j
  | _ => 0
def hbool (v : Option Value) : Int64 := match v with
  | some (.int i) => if i = 0 then 0 else 1
  | _ => 0
/-- how a helper ends, by how the class's method did -/
def hP (w1 : zR) (cods : List (String × Int32)) (n : Nat) (up : Option Value → zV) (k : Int32) (V : zV) (n' : Nat) : Prop := (∃ v, w1.1 = .inl v ∧ k = 0 ∧ n' = w1.2.2 ∧ V = up v) ∨ ∃ E c, w1.1 = .inr E ∧ (E, c) ∈ cods ∧ k = c ∧ V = w1.2.1 ∧ n ≤ n'
theorem zc_le (w : zR) : zc w ≤ 1 := by unfold zc; split <;> decide
theorem zs_le (w : zR) : zs w ≤ 6 := by unfold zs; split <;> decide
theorem h_in0 {N : Nat} (h : 0 < N) : ¬ ((0 : Int32) < 0 ∨ N ≤ (0 : Int32).toNatClampNeg) := by
  intro q
  rcases q with q | q
  · exact absurd q (by decide)
  · exact absurd q (Nat.not_le.mpr h)
def hO (w1 : zR) (o : Nat) : Prop := ∀ v, w1.1 = .inl v → ∃ N f, w1.2.1 o = some (.inl (1, N, .inr (.inl f))) ∧ 0 < N
set_option maxHeartbeats 4000000 in
set_option maxRecDepth 100000 in
theorem hW_channel {l : Launch} {D : va_G} {dA : Nat → ClassId} {V : zV} {n : Nat} (hl : l.stackTraces = false) {q : Nat} {p0 : Int32} {p1 : Int32} {o : Nat} {w1 : zR} {fs : List Value} (h : fB_channel V n q p0 p1 = some w1) (hq : V q = some (.inr (5, fs))) (ht : ∀ v, w1.1 = .inl v → ∃ i, v = some (.int i)) (ho : hO w1 o) (hx : ∀ E, w1.1 = .inr E → E ∈ ([("java/lang/IndexOutOfBoundsException", 1), ("java/lang/IllegalStateException", 2), ("java/lang/IllegalArgumentException", 3)] : List (String × Int32)).map (·.1)) : h_Met l ⟨"BarrierMarksLaw", "channel", "(LBarrierMarks;II[J)I"⟩ method_3_code 5 [(0, 10, 13, 13), (0, 10, 17, 15), (0, 10, 21, 17)] 8 128 6 302 [.ref q, .int p0, .int p1, .ref o] D dA V n (hP w1 [("java/lang/IndexOutOfBoundsException", 1), ("java/lang/IllegalStateException", 2), ("java/lang/IllegalArgumentException", 3)] n (fun v => hOut w1.2.1 o (hlong v))) := by
  refine h_ofG hl (by decide) (Nat.le_of_ble_eq_true rfl) (fun x C X => ?_)
  refine g_sub (lv' := [(0, .ref q), (1, .int p0), (2, .int p1), (3, .ref o)]) [0, 1, 2, 3] rfl ?_
  refine g_aload_n C 3 dW_channel_0 rfl rfl ?_
  refine g_iconst (v := 0) C dW_channel_1 (by decide) ?_
  refine g_aload_n C 0 dW_channel_2 rfl rfl ?_
  refine g_iload_n C 1 dW_channel_3 rfl rfl ?_
  refine g_iload_n C 2 dW_channel_4 rfl rfl ?_
  refine g_core (w1 := w1) C (g_runV (mc1 := 6) (ms1 := 302) (As := [.int p0, .int p1]) C cv_W_7 hq rfl (fun l D dA hl => mB_channel hl h) (by decide) (by decide) rfl rfl (Nat.le_of_ble_eq_true rfl) dW_channel_5 (by decide) (by decide)) (fun v hv => ?_) (fun E n9 hE hn => ?_)
  · obtain ⟨i, rfl⟩ := ht v hv
    obtain ⟨N, f, e1, e2⟩ := ho _ hv
    refine g_i2l C dW_channel_8 ?_
    refine g_last C e1 (h_in0 e2) dW_channel_9 ?_
    refine g_goto C 25 dW_channel_10 (by decide) ?_
    refine g_iconst (v := 0) C dW_channel_25 (by decide) ?_
    exact h_ret C X (by decide) (by decide) dW_channel_26 (Or.inl ⟨_, hv, rfl, rfl, by show _ = hOut _ _ _; unfold hOut; rw [e1]; rfl⟩)
  · have h9 := hx E hE
    simp only [List.map_cons, List.map_nil, List.mem_cons, List.not_mem_nil, or_false] at h9
    rcases h9 with rfl | rfl | rfl
    · refine h_catch C X [] 13 13 0 10 [(0, 10, 17, 15), (0, 10, 21, 17)] rfl ⟨by decide, by decide⟩ (by decide) nl_W_13 (by decide +kernel) (fun z hz => by cases hz) (fun q9 => ?_)
      refine g_astore (lv' := [(4, .ref q9), (0, .ref q), (1, .int p0), (2, .int p1), (3, .ref o)]) C dW_channel_13 (by decide) rfl ?_
      refine g_iconst (v := 1) C dW_channel_15 (by decide) ?_
      exact h_ret C X (by decide) (by decide) dW_channel_16 (Or.inr ⟨_, 1, hE, by simp, rfl, rfl, hn⟩)
    · refine h_catch C X [(0, 10, 13, 13)] 17 15 0 10 [(0, 10, 21, 17)] rfl ⟨by decide, by decide⟩ (by decide) nl_W_15 (by decide +kernel) (fun z hz => by
      simp only [List.mem_cons, List.not_mem_nil, or_false] at hz
      subst hz
      exact ⟨by decide, _, nl_W_13, by decide +kernel⟩) (fun q9 => ?_)
      refine g_astore (lv' := [(4, .ref q9), (0, .ref q), (1, .int p0), (2, .int p1), (3, .ref o)]) C dW_channel_17 (by decide) rfl ?_
      refine g_iconst (v := 2) C dW_channel_19 (by decide) ?_
      exact h_ret C X (by decide) (by decide) dW_channel_20 (Or.inr ⟨_, 2, hE, by simp, rfl, rfl, hn⟩)
    · refine h_catch C X [(0, 10, 13, 13), (0, 10, 17, 15)] 21 17 0 10 [] rfl ⟨by decide, by decide⟩ (by decide) nl_W_17 (by decide +kernel) (fun z hz => by
      simp only [List.mem_cons, List.not_mem_nil, or_false] at hz
      rcases hz with rfl | rfl
      · exact ⟨by decide, _, nl_W_13, by decide +kernel⟩
      · exact ⟨by decide, _, nl_W_15, by decide +kernel⟩) (fun q9 => ?_)
      refine g_astore (lv' := [(4, .ref q9), (0, .ref q), (1, .int p0), (2, .int p1), (3, .ref o)]) C dW_channel_21 (by decide) rfl ?_
      refine g_iconst (v := 3) C dW_channel_23 (by decide) ?_
      exact h_ret C X (by decide) (by decide) dW_channel_24 (Or.inr ⟨_, 3, hE, by simp, rfl, rfl, hn⟩)
set_option maxHeartbeats 4000000 in
set_option maxRecDepth 100000 in
theorem hW_send {l : Launch} {D : va_G} {dA : Nat → ClassId} {V : zV} {n : Nat} (hl : l.stackTraces = false) {q : Nat} {p0 : Int32} {p1 : Int64} {o : Nat} {w1 : zR} {fs : List Value} (h : fB_send V n q p0 p1 = some w1) (hq : V q = some (.inr (5, fs))) (ht : ∀ v, w1.1 = .inl v → ∃ i, v = some (.int i)) (ho : hO w1 o) (hx : ∀ E, w1.1 = .inr E → E ∈ ([("java/lang/IndexOutOfBoundsException", 1), ("java/lang/IllegalStateException", 2)] : List (String × Int32)).map (·.1)) : h_Met l ⟨"BarrierMarksLaw", "send", "(LBarrierMarks;IJ[J)I"⟩ method_4_code 6 [(0, 11, 14, 13), (0, 11, 18, 15)] 9 150 1 6 [.ref q, .int p0, .long p1, .ref o] D dA V n (hP w1 [("java/lang/IndexOutOfBoundsException", 1), ("java/lang/IllegalStateException", 2)] n (fun v => hOut w1.2.1 o (hlong v))) := by
  refine h_ofG hl (by decide) (Nat.le_of_ble_eq_true rfl) (fun x C X => ?_)
  refine g_sub (lv' := [(0, .ref q), (1, .int p0), (2, .long p1), (4, .ref o)]) [0, 1, 2, 3] rfl ?_
  refine g_aload C 3 dW_send_0 rfl ?_
  refine g_iconst (v := 0) C dW_send_2 (by decide) ?_
  refine g_aload_n C 0 dW_send_3 rfl rfl ?_
  refine g_iload_n C 1 dW_send_4 rfl rfl ?_
  refine g_lload_n C 2 dW_send_5 rfl rfl ?_
  refine g_core (w1 := w1) C (g_runV (mc1 := (zc w1)) (ms1 := (zs w1)) (As := [.int p0, .long p1]) C cv_W_19 hq rfl (fun l D dA hl => mB_send hl h) (by decide) (by decide) rfl rfl (Nat.le_of_ble_eq_true rfl) dW_send_6 (by rw [Nat.zero_add]; exact zc_le w1) (by rw [Nat.zero_add]; exact zs_le w1)) (fun v hv => ?_) (fun E n9 hE hn => ?_)
  · obtain ⟨i, rfl⟩ := ht v hv
    obtain ⟨N, f, e1, e2⟩ := ho _ hv
    refine g_i2l C dW_send_9 ?_
    refine g_last C e1 (h_in0 e2) dW_send_10 ?_
    refine g_goto C 22 dW_send_11 (by decide) ?_
    refine g_iconst (v := 0) C dW_send_22 (by decide) ?_
    exact h_ret C X (by rw [Nat.zero_add]; exact zc_le w1) (by rw [Nat.zero_add]; exact zs_le w1) dW_send_23 (Or.inl ⟨_, hv, rfl, rfl, by show _ = hOut _ _ _; unfold hOut; rw [e1]; rfl⟩)
  · have h9 := hx E hE
    simp only [List.map_cons, List.map_nil, List.mem_cons, List.not_mem_nil, or_false] at h9
    rcases h9 with rfl | rfl
    · refine h_catch C X [] 14 13 0 11 [(0, 11, 18, 15)] rfl ⟨by decide, by decide⟩ (by decide) nl_W_13 (by decide +kernel) (fun z hz => by cases hz) (fun q9 => ?_)
      refine g_astore (lv' := [(5, .ref q9), (0, .ref q), (1, .int p0), (2, .long p1), (4, .ref o)]) C dW_send_14 (by decide) rfl ?_
      refine g_iconst (v := 1) C dW_send_16 (by decide) ?_
      exact h_ret C X (by rw [Nat.zero_add]; exact zc_le w1) (by rw [Nat.zero_add]; exact zs_le w1) dW_send_17 (Or.inr ⟨_, 1, hE, by simp, rfl, rfl, hn⟩)
    · refine h_catch C X [(0, 11, 14, 13)] 18 15 0 11 [] rfl ⟨by decide, by decide⟩ (by decide) nl_W_15 (by decide +kernel) (fun z hz => by
      simp only [List.mem_cons, List.not_mem_nil, or_false] at hz
      subst hz
      exact ⟨by decide, _, nl_W_13, by decide +kernel⟩) (fun q9 => ?_)
      refine g_astore (lv' := [(5, .ref q9), (0, .ref q), (1, .int p0), (2, .long p1), (4, .ref o)]) C dW_send_18 (by decide) rfl ?_
      refine g_iconst (v := 2) C dW_send_20 (by decide) ?_
      exact h_ret C X (by rw [Nat.zero_add]; exact zc_le w1) (by rw [Nat.zero_add]; exact zs_le w1) dW_send_21 (Or.inr ⟨_, 2, hE, by simp, rfl, rfl, hn⟩)
set_option maxHeartbeats 4000000 in
set_option maxRecDepth 100000 in
theorem hW_finish {l : Launch} {D : va_G} {dA : Nat → ClassId} {V : zV} {n : Nat} (hl : l.stackTraces = false) {q : Nat} {p0 : Int32} {o : Nat} {w1 : zR} {fs : List Value} (h : fB_finish V n q p0 = some w1) (hq : V q = some (.inr (5, fs))) (ht : ∀ v, w1.1 = .inl v → ∃ i, v = some (.int i)) (ho : hO w1 o) (hx : ∀ E, w1.1 = .inr E → E ∈ ([("java/lang/IndexOutOfBoundsException", 1), ("java/lang/IllegalStateException", 2)] : List (String × Int32)).map (·.1)) : h_Met l ⟨"BarrierMarksLaw", "finish", "(LBarrierMarks;I[J)I"⟩ method_5_code 4 [(0, 9, 12, 13), (0, 9, 15, 15)] 9 148 1 6 [.ref q, .int p0, .ref o] D dA V n (hP w1 [("java/lang/IndexOutOfBoundsException", 1), ("java/lang/IllegalStateException", 2)] n (fun v => hOut w1.2.1 o (hlong v))) := by
  refine h_ofG hl (by decide) (Nat.le_of_ble_eq_true rfl) (fun x C X => ?_)
  refine g_sub (lv' := [(0, .ref q), (1, .int p0), (2, .ref o)]) [0, 1, 2] rfl ?_
  refine g_aload_n C 2 dW_finish_0 rfl rfl ?_
  refine g_iconst (v := 0) C dW_finish_1 (by decide) ?_
  refine g_aload_n C 0 dW_finish_2 rfl rfl ?_
  refine g_iload_n C 1 dW_finish_3 rfl rfl ?_
  refine g_core (w1 := w1) C (g_runV (mc1 := (zc w1)) (ms1 := (zs w1)) (As := [.int p0]) C cv_W_23 hq rfl (fun l D dA hl => mB_finish hl h) (by decide) (by decide) rfl rfl (Nat.le_of_ble_eq_true rfl) dW_finish_4 (by rw [Nat.zero_add]; exact zc_le w1) (by rw [Nat.zero_add]; exact zs_le w1)) (fun v hv => ?_) (fun E n9 hE hn => ?_)
  · obtain ⟨i, rfl⟩ := ht v hv
    obtain ⟨N, f, e1, e2⟩ := ho _ hv
    refine g_i2l C dW_finish_7 ?_
    refine g_last C e1 (h_in0 e2) dW_finish_8 ?_
    refine g_goto C 18 dW_finish_9 (by decide) ?_
    refine g_iconst (v := 0) C dW_finish_18 (by decide) ?_
    exact h_ret C X (by rw [Nat.zero_add]; exact zc_le w1) (by rw [Nat.zero_add]; exact zs_le w1) dW_finish_19 (Or.inl ⟨_, hv, rfl, rfl, by show _ = hOut _ _ _; unfold hOut; rw [e1]; rfl⟩)
  · have h9 := hx E hE
    simp only [List.map_cons, List.map_nil, List.mem_cons, List.not_mem_nil, or_false] at h9
    rcases h9 with rfl | rfl
    · refine h_catch C X [] 12 13 0 9 [(0, 9, 15, 15)] rfl ⟨by decide, by decide⟩ (by decide) nl_W_13 (by decide +kernel) (fun z hz => by cases hz) (fun q9 => ?_)
      refine g_astore_n (lv' := [(3, .ref q9), (0, .ref q), (1, .int p0), (2, .ref o)]) (i := 3) C dW_finish_12 rfl (by decide) rfl ?_
      refine g_iconst (v := 1) C dW_finish_13 (by decide) ?_
      exact h_ret C X (by rw [Nat.zero_add]; exact zc_le w1) (by rw [Nat.zero_add]; exact zs_le w1) dW_finish_14 (Or.inr ⟨_, 1, hE, by simp, rfl, rfl, hn⟩)
    · refine h_catch C X [(0, 9, 12, 13)] 15 15 0 9 [] rfl ⟨by decide, by decide⟩ (by decide) nl_W_15 (by decide +kernel) (fun z hz => by
      simp only [List.mem_cons, List.not_mem_nil, or_false] at hz
      subst hz
      exact ⟨by decide, _, nl_W_13, by decide +kernel⟩) (fun q9 => ?_)
      refine g_astore_n (lv' := [(3, .ref q9), (0, .ref q), (1, .int p0), (2, .ref o)]) (i := 3) C dW_finish_15 rfl (by decide) rfl ?_
      refine g_iconst (v := 2) C dW_finish_16 (by decide) ?_
      exact h_ret C X (by rw [Nat.zero_add]; exact zc_le w1) (by rw [Nat.zero_add]; exact zs_le w1) dW_finish_17 (Or.inr ⟨_, 2, hE, by simp, rfl, rfl, hn⟩)
set_option maxHeartbeats 4000000 in
set_option maxRecDepth 100000 in
theorem hW_mark {l : Launch} {D : va_G} {dA : Nat → ClassId} {V : zV} {n : Nat} (hl : l.stackTraces = false) {q : Nat} {o : Nat} {w1 : zR} {fs : List Value} (h : fB_mark V n q = some w1) (hq : V q = some (.inr (5, fs))) (ht : ∀ v, w1.1 = .inl v → ∃ i, v = some (.int i)) (ho : hO w1 o) (hx : ∀ E, w1.1 = .inr E → E ∈ ([("java/lang/IllegalStateException", 1)] : List (String × Int32)).map (·.1)) : h_Met l ⟨"BarrierMarksLaw", "mark", "(LBarrierMarks;[J)I"⟩ method_6_code 3 [(0, 8, 11, 15)] 7 105 8 63 [.ref q, .ref o] D dA V n (hP w1 [("java/lang/IllegalStateException", 1)] n (fun v => hOut w1.2.1 o (hlong v))) := by
  refine h_ofG hl (by decide) (Nat.le_of_ble_eq_true rfl) (fun x C X => ?_)
  refine g_sub (lv' := [(0, .ref q), (1, .ref o)]) [0, 1] rfl ?_
  refine g_aload_n C 1 dW_mark_0 rfl rfl ?_
  refine g_iconst (v := 0) C dW_mark_1 (by decide) ?_
  refine g_aload_n C 0 dW_mark_2 rfl rfl ?_
  refine g_core (w1 := w1) C (g_runV (mc1 := 8) (ms1 := 63) (As := []) C cv_W_27 hq rfl (fun l D dA hl => mB_mark hl h) (by decide) (by decide) rfl rfl (Nat.le_of_ble_eq_true rfl) dW_mark_3 (by decide) (by decide)) (fun v hv => ?_) (fun E n9 hE hn => ?_)
  · obtain ⟨i, rfl⟩ := ht v hv
    obtain ⟨N, f, e1, e2⟩ := ho _ hv
    refine g_i2l C dW_mark_6 ?_
    refine g_last C e1 (h_in0 e2) dW_mark_7 ?_
    refine g_goto C 14 dW_mark_8 (by decide) ?_
    refine g_iconst (v := 0) C dW_mark_14 (by decide) ?_
    exact h_ret C X (by decide) (by decide) dW_mark_15 (Or.inl ⟨_, hv, rfl, rfl, by show _ = hOut _ _ _; unfold hOut; rw [e1]; rfl⟩)
  · have h9 := hx E hE
    simp only [List.map_cons, List.map_nil, List.mem_cons, List.not_mem_nil, or_false] at h9
    subst h9
    refine h_catch C X [] 11 15 0 8 [] rfl ⟨by decide, by decide⟩ (by decide) nl_W_15 (by decide +kernel) (fun z hz => by cases hz) (fun q9 => ?_)
    refine g_astore_n (lv' := [(2, .ref q9), (0, .ref q), (1, .ref o)]) (i := 2) C dW_mark_11 rfl (by decide) rfl ?_
    refine g_iconst (v := 1) C dW_mark_12 (by decide) ?_
    exact h_ret C X (by decide) (by decide) dW_mark_13 (Or.inr ⟨_, 1, hE, by simp, rfl, rfl, hn⟩)
set_option maxHeartbeats 4000000 in
set_option maxRecDepth 100000 in
theorem hW_turn {l : Launch} {D : va_G} {dA : Nat → ClassId} {V : zV} {n : Nat} (hl : l.stackTraces = false) {q : Nat} {p0 : Int32} {o : Nat} {w1 : zR} {fs : List Value} (h : fB_turn V n q p0 = some w1) (hq : V q = some (.inr (5, fs))) (ht : ∀ v, w1.1 = .inl v → ∃ i, v = some (.int i)) (ho : hO w1 o) (hx : ∀ E, w1.1 = .inr E → E ∈ ([("java/lang/IndexOutOfBoundsException", 1)] : List (String × Int32)).map (·.1)) : h_Met l ⟨"BarrierMarksLaw", "turn", "(LBarrierMarks;I[J)I"⟩ method_7_code 4 [(0, 9, 12, 13)] 9 146 1 6 [.ref q, .int p0, .ref o] D dA V n (hP w1 [("java/lang/IndexOutOfBoundsException", 1)] n (fun v => hOut w1.2.1 o (hlong v))) := by
  refine h_ofG hl (by decide) (Nat.le_of_ble_eq_true rfl) (fun x C X => ?_)
  refine g_sub (lv' := [(0, .ref q), (1, .int p0), (2, .ref o)]) [0, 1, 2] rfl ?_
  refine g_aload_n C 2 dW_turn_0 rfl rfl ?_
  refine g_iconst (v := 0) C dW_turn_1 (by decide) ?_
  refine g_aload_n C 0 dW_turn_2 rfl rfl ?_
  refine g_iload_n C 1 dW_turn_3 rfl rfl ?_
  refine g_core (w1 := w1) C (g_runV (mc1 := (zc w1)) (ms1 := (zs w1)) (As := [.int p0]) C cv_W_31 hq rfl (fun l D dA hl => mB_turn hl h) (by decide) (by decide) rfl rfl (Nat.le_of_ble_eq_true rfl) dW_turn_4 (by rw [Nat.zero_add]; exact zc_le w1) (by rw [Nat.zero_add]; exact zs_le w1)) (fun v hv => ?_) (fun E n9 hE hn => ?_)
  · obtain ⟨i, rfl⟩ := ht v hv
    obtain ⟨N, f, e1, e2⟩ := ho _ hv
    refine g_i2l C dW_turn_7 ?_
    refine g_last C e1 (h_in0 e2) dW_turn_8 ?_
    refine g_goto C 15 dW_turn_9 (by decide) ?_
    refine g_iconst (v := 0) C dW_turn_15 (by decide) ?_
    exact h_ret C X (by rw [Nat.zero_add]; exact zc_le w1) (by rw [Nat.zero_add]; exact zs_le w1) dW_turn_16 (Or.inl ⟨_, hv, rfl, rfl, by show _ = hOut _ _ _; unfold hOut; rw [e1]; rfl⟩)
  · have h9 := hx E hE
    simp only [List.map_cons, List.map_nil, List.mem_cons, List.not_mem_nil, or_false] at h9
    subst h9
    refine h_catch C X [] 12 13 0 9 [] rfl ⟨by decide, by decide⟩ (by decide) nl_W_13 (by decide +kernel) (fun z hz => by cases hz) (fun q9 => ?_)
    refine g_astore_n (lv' := [(3, .ref q9), (0, .ref q), (1, .int p0), (2, .ref o)]) (i := 3) C dW_turn_12 rfl (by decide) rfl ?_
    refine g_iconst (v := 1) C dW_turn_13 (by decide) ?_
    exact h_ret C X (by rw [Nat.zero_add]; exact zc_le w1) (by rw [Nat.zero_add]; exact zs_le w1) dW_turn_14 (Or.inr ⟨_, 1, hE, by simp, rfl, rfl, hn⟩)
set_option maxHeartbeats 4000000 in
set_option maxRecDepth 100000 in
theorem hW_play {l : Launch} {D : va_G} {dA : Nat → ClassId} {V : zV} {n : Nat} (hl : l.stackTraces = false) {q : Nat} {p0 : Int64} {p1 : Int32} {o : Nat} {w1 : zR} {fs : List Value} (h : fB_play V n q p0 p1 = some w1) (hq : V q = some (.inr (5, fs))) (ht : ∀ v, w1.1 = .inl v → ∃ i, v = some (.int i)) (ho : hO w1 o) (hx : ∀ E, w1.1 = .inr E → E ∈ ([("java/lang/IllegalArgumentException", 1)] : List (String × Int32)).map (·.1)) : h_Met l ⟨"BarrierMarksLaw", "play", "(LBarrierMarks;JI[J)I"⟩ method_8_code 6 [(0, 11, 14, 17)] 9 154 1 6 [.ref q, .long p0, .int p1, .ref o] D dA V n (hP w1 [("java/lang/IllegalArgumentException", 1)] n (fun v => hOut w1.2.1 o (hlong v))) := by
  refine h_ofG hl (by decide) (Nat.le_of_ble_eq_true rfl) (fun x C X => ?_)
  refine g_sub (lv' := [(0, .ref q), (1, .long p0), (3, .int p1), (4, .ref o)]) [0, 1, 2, 3] rfl ?_
  refine g_aload C 3 dW_play_0 rfl ?_
  refine g_iconst (v := 0) C dW_play_2 (by decide) ?_
  refine g_aload_n C 0 dW_play_3 rfl rfl ?_
  refine g_lload_n C 1 dW_play_4 rfl rfl ?_
  refine g_iload_n C 2 dW_play_5 rfl rfl ?_
  refine g_core (w1 := w1) C (g_runV (mc1 := (zc w1)) (ms1 := (zs w1)) (As := [.long p0, .int p1]) C cv_W_34 hq rfl (fun l D dA hl => mB_play hl h) (by decide) (by decide) rfl rfl (Nat.le_of_ble_eq_true rfl) dW_play_6 (by rw [Nat.zero_add]; exact zc_le w1) (by rw [Nat.zero_add]; exact zs_le w1)) (fun v hv => ?_) (fun E n9 hE hn => ?_)
  · obtain ⟨i, rfl⟩ := ht v hv
    obtain ⟨N, f, e1, e2⟩ := ho _ hv
    refine g_i2l C dW_play_9 ?_
    refine g_last C e1 (h_in0 e2) dW_play_10 ?_
    refine g_goto C 18 dW_play_11 (by decide) ?_
    refine g_iconst (v := 0) C dW_play_18 (by decide) ?_
    exact h_ret C X (by rw [Nat.zero_add]; exact zc_le w1) (by rw [Nat.zero_add]; exact zs_le w1) dW_play_19 (Or.inl ⟨_, hv, rfl, rfl, by show _ = hOut _ _ _; unfold hOut; rw [e1]; rfl⟩)
  · have h9 := hx E hE
    simp only [List.map_cons, List.map_nil, List.mem_cons, List.not_mem_nil, or_false] at h9
    subst h9
    refine h_catch C X [] 14 17 0 11 [] rfl ⟨by decide, by decide⟩ (by decide) nl_W_17 (by decide +kernel) (fun z hz => by cases hz) (fun q9 => ?_)
    refine g_astore (lv' := [(5, .ref q9), (0, .ref q), (1, .long p0), (3, .int p1), (4, .ref o)]) C dW_play_14 (by decide) rfl ?_
    refine g_iconst (v := 1) C dW_play_16 (by decide) ?_
    exact h_ret C X (by rw [Nat.zero_add]; exact zc_le w1) (by rw [Nat.zero_add]; exact zs_le w1) dW_play_17 (Or.inr ⟨_, 1, hE, by simp, rfl, rfl, hn⟩)
set_option maxHeartbeats 4000000 in
set_option maxRecDepth 100000 in
theorem hW_giveUp {l : Launch} {D : va_G} {dA : Nat → ClassId} {V : zV} {n : Nat} (hl : l.stackTraces = false) {q : Nat} {p0 : Int32} {o : Nat} {w1 : zR} {fs : List Value} (h : fB_giveUp V n q p0 = some w1) (hq : V q = some (.inr (5, fs))) (ht : ∀ v, w1.1 = .inl v → ∃ i, v = some (.int i)) (ho : hO w1 o) (hx : ∀ E, w1.1 = .inr E → E ∈ ([("java/lang/IndexOutOfBoundsException", 1), ("java/lang/IllegalStateException", 2)] : List (String × Int32)).map (·.1)) : h_Met l ⟨"BarrierMarksLaw", "giveUp", "(LBarrierMarks;I[J)I"⟩ method_9_code 4 [(0, 9, 12, 13), (0, 9, 15, 15)] 9 147 1 6 [.ref q, .int p0, .ref o] D dA V n (hP w1 [("java/lang/IndexOutOfBoundsException", 1), ("java/lang/IllegalStateException", 2)] n (fun v => hOut w1.2.1 o (hlong v))) := by
  refine h_ofG hl (by decide) (Nat.le_of_ble_eq_true rfl) (fun x C X => ?_)
  refine g_sub (lv' := [(0, .ref q), (1, .int p0), (2, .ref o)]) [0, 1, 2] rfl ?_
  refine g_aload_n C 2 dW_giveUp_0 rfl rfl ?_
  refine g_iconst (v := 0) C dW_giveUp_1 (by decide) ?_
  refine g_aload_n C 0 dW_giveUp_2 rfl rfl ?_
  refine g_iload_n C 1 dW_giveUp_3 rfl rfl ?_
  refine g_core (w1 := w1) C (g_runV (mc1 := (zc w1)) (ms1 := (zs w1)) (As := [.int p0]) C cv_W_38 hq rfl (fun l D dA hl => mB_giveUp hl h) (by decide) (by decide) rfl rfl (Nat.le_of_ble_eq_true rfl) dW_giveUp_4 (by rw [Nat.zero_add]; exact zc_le w1) (by rw [Nat.zero_add]; exact zs_le w1)) (fun v hv => ?_) (fun E n9 hE hn => ?_)
  · obtain ⟨i, rfl⟩ := ht v hv
    obtain ⟨N, f, e1, e2⟩ := ho _ hv
    refine g_i2l C dW_giveUp_7 ?_
    refine g_last C e1 (h_in0 e2) dW_giveUp_8 ?_
    refine g_goto C 18 dW_giveUp_9 (by decide) ?_
    refine g_iconst (v := 0) C dW_giveUp_18 (by decide) ?_
    exact h_ret C X (by rw [Nat.zero_add]; exact zc_le w1) (by rw [Nat.zero_add]; exact zs_le w1) dW_giveUp_19 (Or.inl ⟨_, hv, rfl, rfl, by show _ = hOut _ _ _; unfold hOut; rw [e1]; rfl⟩)
  · have h9 := hx E hE
    simp only [List.map_cons, List.map_nil, List.mem_cons, List.not_mem_nil, or_false] at h9
    rcases h9 with rfl | rfl
    · refine h_catch C X [] 12 13 0 9 [(0, 9, 15, 15)] rfl ⟨by decide, by decide⟩ (by decide) nl_W_13 (by decide +kernel) (fun z hz => by cases hz) (fun q9 => ?_)
      refine g_astore_n (lv' := [(3, .ref q9), (0, .ref q), (1, .int p0), (2, .ref o)]) (i := 3) C dW_giveUp_12 rfl (by decide) rfl ?_
      refine g_iconst (v := 1) C dW_giveUp_13 (by decide) ?_
      exact h_ret C X (by rw [Nat.zero_add]; exact zc_le w1) (by rw [Nat.zero_add]; exact zs_le w1) dW_giveUp_14 (Or.inr ⟨_, 1, hE, by simp, rfl, rfl, hn⟩)
    · refine h_catch C X [(0, 9, 12, 13)] 15 15 0 9 [] rfl ⟨by decide, by decide⟩ (by decide) nl_W_15 (by decide +kernel) (fun z hz => by
      simp only [List.mem_cons, List.not_mem_nil, or_false] at hz
      subst hz
      exact ⟨by decide, _, nl_W_13, by decide +kernel⟩) (fun q9 => ?_)
      refine g_astore_n (lv' := [(3, .ref q9), (0, .ref q), (1, .int p0), (2, .ref o)]) (i := 3) C dW_giveUp_15 rfl (by decide) rfl ?_
      refine g_iconst (v := 2) C dW_giveUp_16 (by decide) ?_
      exact h_ret C X (by rw [Nat.zero_add]; exact zc_le w1) (by rw [Nat.zero_add]; exact zs_le w1) dW_giveUp_17 (Or.inr ⟨_, 2, hE, by simp, rfl, rfl, hn⟩)
set_option maxHeartbeats 4000000 in
set_option maxRecDepth 100000 in
theorem hW_fails {l : Launch} {D : va_G} {dA : Nat → ClassId} {V : zV} {n : Nat} (hl : l.stackTraces = false) {q : Nat} {p0 : Int32} {p1 : Int32} {w1 : zR} {fs : List Value} (h : fB_fails V n q p0 p1 = some w1) (hq : V q = some (.inr (5, fs))) (ht : ∀ v, w1.1 = .inl v → v = none) (hx : ∀ E, w1.1 = .inr E → E ∈ ([("java/lang/IndexOutOfBoundsException", 1), ("java/lang/IllegalStateException", 2)] : List (String × Int32)).map (·.1)) : h_Met l ⟨"BarrierMarksLaw", "fails", "(LBarrierMarks;II)I"⟩ method_10_code 4 [(0, 6, 9, 13), (0, 6, 12, 15)] 9 148 1 6 [.ref q, .int p0, .int p1] D dA V n (hP w1 [("java/lang/IndexOutOfBoundsException", 1), ("java/lang/IllegalStateException", 2)] n (fun _ => w1.2.1)) := by
  refine h_ofG hl (by decide) (Nat.le_of_ble_eq_true rfl) (fun x C X => ?_)
  refine g_sub (lv' := [(0, .ref q), (1, .int p0), (2, .int p1)]) [0, 1, 2] rfl ?_
  refine g_aload_n C 0 dW_fails_0 rfl rfl ?_
  refine g_iload_n C 1 dW_fails_1 rfl rfl ?_
  refine g_iload_n C 2 dW_fails_2 rfl rfl ?_
  refine g_core (w1 := w1) C (g_runV (mc1 := (zc w1)) (ms1 := (zs w1)) (As := [.int p0, .int p1]) C cv_W_41 hq rfl (fun l D dA hl => mB_fails hl h) (by decide) (by decide) rfl rfl (Nat.le_of_ble_eq_true rfl) dW_fails_3 (by rw [Nat.zero_add]; exact zc_le w1) (by rw [Nat.zero_add]; exact zs_le w1)) (fun v hv => ?_) (fun E n9 hE hn => ?_)
  · obtain rfl := ht v hv
    refine g_goto C 15 dW_fails_6 (by decide) ?_
    refine g_iconst (v := 0) C dW_fails_15 (by decide) ?_
    exact h_ret C X (by rw [Nat.zero_add]; exact zc_le w1) (by rw [Nat.zero_add]; exact zs_le w1) dW_fails_16 (Or.inl ⟨_, hv, rfl, rfl, rfl⟩)
  · have h9 := hx E hE
    simp only [List.map_cons, List.map_nil, List.mem_cons, List.not_mem_nil, or_false] at h9
    rcases h9 with rfl | rfl
    · refine h_catch C X [] 9 13 0 6 [(0, 6, 12, 15)] rfl ⟨by decide, by decide⟩ (by decide) nl_W_13 (by decide +kernel) (fun z hz => by cases hz) (fun q9 => ?_)
      refine g_astore_n (lv' := [(3, .ref q9), (0, .ref q), (1, .int p0), (2, .int p1)]) (i := 3) C dW_fails_9 rfl (by decide) rfl ?_
      refine g_iconst (v := 1) C dW_fails_10 (by decide) ?_
      exact h_ret C X (by rw [Nat.zero_add]; exact zc_le w1) (by rw [Nat.zero_add]; exact zs_le w1) dW_fails_11 (Or.inr ⟨_, 1, hE, by simp, rfl, rfl, hn⟩)
    · refine h_catch C X [(0, 6, 9, 13)] 12 15 0 6 [] rfl ⟨by decide, by decide⟩ (by decide) nl_W_15 (by decide +kernel) (fun z hz => by
      simp only [List.mem_cons, List.not_mem_nil, or_false] at hz
      subst hz
      exact ⟨by decide, _, nl_W_13, by decide +kernel⟩) (fun q9 => ?_)
      refine g_astore_n (lv' := [(3, .ref q9), (0, .ref q), (1, .int p0), (2, .int p1)]) (i := 3) C dW_fails_12 rfl (by decide) rfl ?_
      refine g_iconst (v := 2) C dW_fails_13 (by decide) ?_
      exact h_ret C X (by rw [Nat.zero_add]; exact zc_le w1) (by rw [Nat.zero_add]; exact zs_le w1) dW_fails_14 (Or.inr ⟨_, 2, hE, by simp, rfl, rfl, hn⟩)
set_option maxHeartbeats 4000000 in
set_option maxRecDepth 100000 in
theorem hW_again {l : Launch} {D : va_G} {dA : Nat → ClassId} {V : zV} {n : Nat} (hl : l.stackTraces = false) {q : Nat} {p0 : Int32} {p1 : Int32} {o : Nat} {w1 : zR} {fs : List Value} (h : fB_again V n q p0 p1 = some w1) (hq : V q = some (.inr (5, fs))) (ht : ∀ v, w1.1 = .inl v → ∃ i, v = some (.int i)) (ho : hO w1 o) (hx : ∀ E, w1.1 = .inr E → E ∈ ([("java/lang/IndexOutOfBoundsException", 1), ("java/lang/IllegalStateException", 2)] : List (String × Int32)).map (·.1)) : h_Met l ⟨"BarrierMarksLaw", "again", "(LBarrierMarks;II[J)I"⟩ method_11_code 5 [(0, 10, 13, 13), (0, 10, 17, 15)] 9 148 1 6 [.ref q, .int p0, .int p1, .ref o] D dA V n (hP w1 [("java/lang/IndexOutOfBoundsException", 1), ("java/lang/IllegalStateException", 2)] n (fun v => hOut w1.2.1 o (hlong v))) := by
  refine h_ofG hl (by decide) (Nat.le_of_ble_eq_true rfl) (fun x C X => ?_)
  refine g_sub (lv' := [(0, .ref q), (1, .int p0), (2, .int p1), (3, .ref o)]) [0, 1, 2, 3] rfl ?_
  refine g_aload_n C 3 dW_again_0 rfl rfl ?_
  refine g_iconst (v := 0) C dW_again_1 (by decide) ?_
  refine g_aload_n C 0 dW_again_2 rfl rfl ?_
  refine g_iload_n C 1 dW_again_3 rfl rfl ?_
  refine g_iload_n C 2 dW_again_4 rfl rfl ?_
  refine g_core (w1 := w1) C (g_runV (mc1 := (zc w1)) (ms1 := (zs w1)) (As := [.int p0, .int p1]) C cv_W_45 hq rfl (fun l D dA hl => mB_again hl h) (by decide) (by decide) rfl rfl (Nat.le_of_ble_eq_true rfl) dW_again_5 (by rw [Nat.zero_add]; exact zc_le w1) (by rw [Nat.zero_add]; exact zs_le w1)) (fun v hv => ?_) (fun E n9 hE hn => ?_)
  · obtain ⟨i, rfl⟩ := ht v hv
    obtain ⟨N, f, e1, e2⟩ := ho _ hv
    refine g_i2l C dW_again_8 ?_
    refine g_last C e1 (h_in0 e2) dW_again_9 ?_
    refine g_goto C 21 dW_again_10 (by decide) ?_
    refine g_iconst (v := 0) C dW_again_21 (by decide) ?_
    exact h_ret C X (by rw [Nat.zero_add]; exact zc_le w1) (by rw [Nat.zero_add]; exact zs_le w1) dW_again_22 (Or.inl ⟨_, hv, rfl, rfl, by show _ = hOut _ _ _; unfold hOut; rw [e1]; rfl⟩)
  · have h9 := hx E hE
    simp only [List.map_cons, List.map_nil, List.mem_cons, List.not_mem_nil, or_false] at h9
    rcases h9 with rfl | rfl
    · refine h_catch C X [] 13 13 0 10 [(0, 10, 17, 15)] rfl ⟨by decide, by decide⟩ (by decide) nl_W_13 (by decide +kernel) (fun z hz => by cases hz) (fun q9 => ?_)
      refine g_astore (lv' := [(4, .ref q9), (0, .ref q), (1, .int p0), (2, .int p1), (3, .ref o)]) C dW_again_13 (by decide) rfl ?_
      refine g_iconst (v := 1) C dW_again_15 (by decide) ?_
      exact h_ret C X (by rw [Nat.zero_add]; exact zc_le w1) (by rw [Nat.zero_add]; exact zs_le w1) dW_again_16 (Or.inr ⟨_, 1, hE, by simp, rfl, rfl, hn⟩)
    · refine h_catch C X [(0, 10, 13, 13)] 17 15 0 10 [] rfl ⟨by decide, by decide⟩ (by decide) nl_W_15 (by decide +kernel) (fun z hz => by
      simp only [List.mem_cons, List.not_mem_nil, or_false] at hz
      subst hz
      exact ⟨by decide, _, nl_W_13, by decide +kernel⟩) (fun q9 => ?_)
      refine g_astore (lv' := [(4, .ref q9), (0, .ref q), (1, .int p0), (2, .int p1), (3, .ref o)]) C dW_again_17 (by decide) rfl ?_
      refine g_iconst (v := 2) C dW_again_19 (by decide) ?_
      exact h_ret C X (by rw [Nat.zero_add]; exact zc_le w1) (by rw [Nat.zero_add]; exact zs_le w1) dW_again_20 (Or.inr ⟨_, 2, hE, by simp, rfl, rfl, hn⟩)
set_option maxHeartbeats 4000000 in
set_option maxRecDepth 100000 in
theorem hW_restore {l : Launch} {D : va_G} {dA : Nat → ClassId} {V : zV} {n : Nat} (hl : l.stackTraces = false) {q : Nat} {p0 : Int32} {o : Nat} {w1 : zR} {fs : List Value} (h : fB_restore V n q p0 = some w1) (hq : V q = some (.inr (5, fs))) (ht : ∀ v, w1.1 = .inl v → ∃ i, v = some (.int i)) (ho : hO w1 o) (hx : ∀ E, w1.1 = .inr E → E ∈ ([("java/lang/IndexOutOfBoundsException", 1), ("java/lang/IllegalStateException", 2)] : List (String × Int32)).map (·.1)) : h_Met l ⟨"BarrierMarksLaw", "restore", "(LBarrierMarks;I[J)I"⟩ method_12_code 4 [(0, 9, 12, 13), (0, 9, 15, 15)] 9 150 1 6 [.ref q, .int p0, .ref o] D dA V n (hP w1 [("java/lang/IndexOutOfBoundsException", 1), ("java/lang/IllegalStateException", 2)] n (fun v => hOut w1.2.1 o (hlong v))) := by
  refine h_ofG hl (by decide) (Nat.le_of_ble_eq_true rfl) (fun x C X => ?_)
  refine g_sub (lv' := [(0, .ref q), (1, .int p0), (2, .ref o)]) [0, 1, 2] rfl ?_
  refine g_aload_n C 2 dW_restore_0 rfl rfl ?_
  refine g_iconst (v := 0) C dW_restore_1 (by decide) ?_
  refine g_aload_n C 0 dW_restore_2 rfl rfl ?_
  refine g_iload_n C 1 dW_restore_3 rfl rfl ?_
  refine g_core (w1 := w1) C (g_runV (mc1 := (zc w1)) (ms1 := (zs w1)) (As := [.int p0]) C cv_W_48 hq rfl (fun l D dA hl => mB_restore hl h) (by decide) (by decide) rfl rfl (Nat.le_of_ble_eq_true rfl) dW_restore_4 (by rw [Nat.zero_add]; exact zc_le w1) (by rw [Nat.zero_add]; exact zs_le w1)) (fun v hv => ?_) (fun E n9 hE hn => ?_)
  · obtain ⟨i, rfl⟩ := ht v hv
    obtain ⟨N, f, e1, e2⟩ := ho _ hv
    refine g_i2l C dW_restore_7 ?_
    refine g_last C e1 (h_in0 e2) dW_restore_8 ?_
    refine g_goto C 18 dW_restore_9 (by decide) ?_
    refine g_iconst (v := 0) C dW_restore_18 (by decide) ?_
    exact h_ret C X (by rw [Nat.zero_add]; exact zc_le w1) (by rw [Nat.zero_add]; exact zs_le w1) dW_restore_19 (Or.inl ⟨_, hv, rfl, rfl, by show _ = hOut _ _ _; unfold hOut; rw [e1]; rfl⟩)
  · have h9 := hx E hE
    simp only [List.map_cons, List.map_nil, List.mem_cons, List.not_mem_nil, or_false] at h9
    rcases h9 with rfl | rfl
    · refine h_catch C X [] 12 13 0 9 [(0, 9, 15, 15)] rfl ⟨by decide, by decide⟩ (by decide) nl_W_13 (by decide +kernel) (fun z hz => by cases hz) (fun q9 => ?_)
      refine g_astore_n (lv' := [(3, .ref q9), (0, .ref q), (1, .int p0), (2, .ref o)]) (i := 3) C dW_restore_12 rfl (by decide) rfl ?_
      refine g_iconst (v := 1) C dW_restore_13 (by decide) ?_
      exact h_ret C X (by rw [Nat.zero_add]; exact zc_le w1) (by rw [Nat.zero_add]; exact zs_le w1) dW_restore_14 (Or.inr ⟨_, 1, hE, by simp, rfl, rfl, hn⟩)
    · refine h_catch C X [(0, 9, 12, 13)] 15 15 0 9 [] rfl ⟨by decide, by decide⟩ (by decide) nl_W_15 (by decide +kernel) (fun z hz => by
      simp only [List.mem_cons, List.not_mem_nil, or_false] at hz
      subst hz
      exact ⟨by decide, _, nl_W_13, by decide +kernel⟩) (fun q9 => ?_)
      refine g_astore_n (lv' := [(3, .ref q9), (0, .ref q), (1, .int p0), (2, .ref o)]) (i := 3) C dW_restore_15 rfl (by decide) rfl ?_
      refine g_iconst (v := 2) C dW_restore_16 (by decide) ?_
      exact h_ret C X (by rw [Nat.zero_add]; exact zc_le w1) (by rw [Nat.zero_add]; exact zs_le w1) dW_restore_17 (Or.inr ⟨_, 2, hE, by simp, rfl, rfl, hn⟩)
set_option maxHeartbeats 4000000 in
set_option maxRecDepth 100000 in
theorem hW_state {l : Launch} {D : va_G} {dA : Nat → ClassId} {V : zV} {n : Nat} (hl : l.stackTraces = false) {q : Nat} {p0 : Int32} {o : Nat} {w1 : zR} {fs : List Value} (h : fB_state V n q p0 = some w1) (hq : V q = some (.inr (5, fs))) (ht : ∀ v, w1.1 = .inl v → ∃ i, v = some (.long i)) (ho : hO w1 o) (hx : ∀ E, w1.1 = .inr E → E ∈ ([("java/lang/IndexOutOfBoundsException", 1)] : List (String × Int32)).map (·.1)) : h_Met l ⟨"BarrierMarksLaw", "state", "(LBarrierMarks;I[J)I"⟩ method_13_code 4 [(0, 8, 11, 13)] 8 124 1 6 [.ref q, .int p0, .ref o] D dA V n (hP w1 [("java/lang/IndexOutOfBoundsException", 1)] n (fun v => hOut w1.2.1 o (hlong v))) := by
  refine h_ofG hl (by decide) (Nat.le_of_ble_eq_true rfl) (fun x C X => ?_)
  refine g_sub (lv' := [(0, .ref q), (1, .int p0), (2, .ref o)]) [0, 1, 2] rfl ?_
  refine g_aload_n C 2 dW_state_0 rfl rfl ?_
  refine g_iconst (v := 0) C dW_state_1 (by decide) ?_
  refine g_aload_n C 0 dW_state_2 rfl rfl ?_
  refine g_iload_n C 1 dW_state_3 rfl rfl ?_
  refine g_core (w1 := w1) C (g_runV (mc1 := (zc w1)) (ms1 := (zs w1)) (As := [.int p0]) C cv_W_51 hq rfl (fun l D dA hl => mB_state hl h) (by decide) (by decide) rfl rfl (Nat.le_of_ble_eq_true rfl) dW_state_4 (by rw [Nat.zero_add]; exact zc_le w1) (by rw [Nat.zero_add]; exact zs_le w1)) (fun v hv => ?_) (fun E n9 hE hn => ?_)
  · obtain ⟨i, rfl⟩ := ht v hv
    obtain ⟨N, f, e1, e2⟩ := ho _ hv
    refine g_last C e1 (h_in0 e2) dW_state_7 ?_
    refine g_goto C 14 dW_state_8 (by decide) ?_
    refine g_iconst (v := 0) C dW_state_14 (by decide) ?_
    exact h_ret C X (by rw [Nat.zero_add]; exact zc_le w1) (by rw [Nat.zero_add]; exact zs_le w1) dW_state_15 (Or.inl ⟨_, hv, rfl, rfl, by show _ = hOut _ _ _; unfold hOut; rw [e1]; rfl⟩)
  · have h9 := hx E hE
    simp only [List.map_cons, List.map_nil, List.mem_cons, List.not_mem_nil, or_false] at h9
    subst h9
    refine h_catch C X [] 11 13 0 8 [] rfl ⟨by decide, by decide⟩ (by decide) nl_W_13 (by decide +kernel) (fun z hz => by cases hz) (fun q9 => ?_)
    refine g_astore_n (lv' := [(3, .ref q9), (0, .ref q), (1, .int p0), (2, .ref o)]) (i := 3) C dW_state_11 rfl (by decide) rfl ?_
    refine g_iconst (v := 1) C dW_state_12 (by decide) ?_
    exact h_ret C X (by rw [Nat.zero_add]; exact zc_le w1) (by rw [Nat.zero_add]; exact zs_le w1) dW_state_13 (Or.inr ⟨_, 1, hE, by simp, rfl, rfl, hn⟩)
set_option maxHeartbeats 4000000 in
set_option maxRecDepth 100000 in
theorem hW_task {l : Launch} {D : va_G} {dA : Nat → ClassId} {V : zV} {n : Nat} (hl : l.stackTraces = false) {q : Nat} {p0 : Int32} {p1 : Int32} {o : Nat} {w1 : zR} {fs : List Value} (h : fB_task V n q p0 p1 = some w1) (hq : V q = some (.inr (5, fs))) (ht : ∀ v, w1.1 = .inl v → ∃ i, v = some (.int i)) (ho : hO w1 o) (hx : ∀ E, w1.1 = .inr E → E ∈ ([("java/lang/IndexOutOfBoundsException", 1), ("java/lang/IllegalArgumentException", 2)] : List (String × Int32)).map (·.1)) : h_Met l ⟨"BarrierMarksLaw", "task", "(LBarrierMarks;II[J)I"⟩ method_14_code 5 [(0, 10, 13, 13), (0, 10, 17, 17)] 8 126 1 6 [.ref q, .int p0, .int p1, .ref o] D dA V n (hP w1 [("java/lang/IndexOutOfBoundsException", 1), ("java/lang/IllegalArgumentException", 2)] n (fun v => hOut w1.2.1 o (hlong v))) := by
  refine h_ofG hl (by decide) (Nat.le_of_ble_eq_true rfl) (fun x C X => ?_)
  refine g_sub (lv' := [(0, .ref q), (1, .int p0), (2, .int p1), (3, .ref o)]) [0, 1, 2, 3] rfl ?_
  refine g_aload_n C 3 dW_task_0 rfl rfl ?_
  refine g_iconst (v := 0) C dW_task_1 (by decide) ?_
  refine g_aload_n C 0 dW_task_2 rfl rfl ?_
  refine g_iload_n C 1 dW_task_3 rfl rfl ?_
  refine g_iload_n C 2 dW_task_4 rfl rfl ?_
  refine g_core (w1 := w1) C (g_runV (mc1 := (zc w1)) (ms1 := (zs w1)) (As := [.int p0, .int p1]) C cv_W_55 hq rfl (fun l D dA hl => mB_task hl h) (by decide) (by decide) rfl rfl (Nat.le_of_ble_eq_true rfl) dW_task_5 (by rw [Nat.zero_add]; exact zc_le w1) (by rw [Nat.zero_add]; exact zs_le w1)) (fun v hv => ?_) (fun E n9 hE hn => ?_)
  · obtain ⟨i, rfl⟩ := ht v hv
    obtain ⟨N, f, e1, e2⟩ := ho _ hv
    refine g_i2l C dW_task_8 ?_
    refine g_last C e1 (h_in0 e2) dW_task_9 ?_
    refine g_goto C 21 dW_task_10 (by decide) ?_
    refine g_iconst (v := 0) C dW_task_21 (by decide) ?_
    exact h_ret C X (by rw [Nat.zero_add]; exact zc_le w1) (by rw [Nat.zero_add]; exact zs_le w1) dW_task_22 (Or.inl ⟨_, hv, rfl, rfl, by show _ = hOut _ _ _; unfold hOut; rw [e1]; rfl⟩)
  · have h9 := hx E hE
    simp only [List.map_cons, List.map_nil, List.mem_cons, List.not_mem_nil, or_false] at h9
    rcases h9 with rfl | rfl
    · refine h_catch C X [] 13 13 0 10 [(0, 10, 17, 17)] rfl ⟨by decide, by decide⟩ (by decide) nl_W_13 (by decide +kernel) (fun z hz => by cases hz) (fun q9 => ?_)
      refine g_astore (lv' := [(4, .ref q9), (0, .ref q), (1, .int p0), (2, .int p1), (3, .ref o)]) C dW_task_13 (by decide) rfl ?_
      refine g_iconst (v := 1) C dW_task_15 (by decide) ?_
      exact h_ret C X (by rw [Nat.zero_add]; exact zc_le w1) (by rw [Nat.zero_add]; exact zs_le w1) dW_task_16 (Or.inr ⟨_, 1, hE, by simp, rfl, rfl, hn⟩)
    · refine h_catch C X [(0, 10, 13, 13)] 17 17 0 10 [] rfl ⟨by decide, by decide⟩ (by decide) nl_W_17 (by decide +kernel) (fun z hz => by
      simp only [List.mem_cons, List.not_mem_nil, or_false] at hz
      subst hz
      exact ⟨by decide, _, nl_W_13, by decide +kernel⟩) (fun q9 => ?_)
      refine g_astore (lv' := [(4, .ref q9), (0, .ref q), (1, .int p0), (2, .int p1), (3, .ref o)]) C dW_task_17 (by decide) rfl ?_
      refine g_iconst (v := 2) C dW_task_19 (by decide) ?_
      exact h_ret C X (by rw [Nat.zero_add]; exact zc_le w1) (by rw [Nat.zero_add]; exact zs_le w1) dW_task_20 (Or.inr ⟨_, 2, hE, by simp, rfl, rfl, hn⟩)
set_option maxHeartbeats 4000000 in
set_option maxRecDepth 100000 in
theorem hW_kept {l : Launch} {D : va_G} {dA : Nat → ClassId} {V : zV} {n : Nat} (hl : l.stackTraces = false) {q : Nat} {p0 : Int32} {p1 : Int32} {o : Nat} {w1 : zR} {fs : List Value} (h : fB_kept V n q p0 p1 = some w1) (hq : V q = some (.inr (5, fs))) (ht : ∀ v, w1.1 = .inl v → ∃ i, v = some (.long i)) (ho : hO w1 o) (hx : ∀ E, w1.1 = .inr E → E ∈ ([("java/lang/IndexOutOfBoundsException", 1), ("java/lang/IllegalStateException", 2)] : List (String × Int32)).map (·.1)) : h_Met l ⟨"BarrierMarksLaw", "kept", "(LBarrierMarks;II[J)I"⟩ method_15_code 5 [(0, 9, 12, 13), (0, 9, 16, 15)] 9 148 1 6 [.ref q, .int p0, .int p1, .ref o] D dA V n (hP w1 [("java/lang/IndexOutOfBoundsException", 1), ("java/lang/IllegalStateException", 2)] n (fun v => hOut w1.2.1 o (hlong v))) := by
  refine h_ofG hl (by decide) (Nat.le_of_ble_eq_true rfl) (fun x C X => ?_)
  refine g_sub (lv' := [(0, .ref q), (1, .int p0), (2, .int p1), (3, .ref o)]) [0, 1, 2, 3] rfl ?_
  refine g_aload_n C 3 dW_kept_0 rfl rfl ?_
  refine g_iconst (v := 0) C dW_kept_1 (by decide) ?_
  refine g_aload_n C 0 dW_kept_2 rfl rfl ?_
  refine g_iload_n C 1 dW_kept_3 rfl rfl ?_
  refine g_iload_n C 2 dW_kept_4 rfl rfl ?_
  refine g_core (w1 := w1) C (g_runV (mc1 := (zc w1)) (ms1 := (zs w1)) (As := [.int p0, .int p1]) C cv_W_58 hq rfl (fun l D dA hl => mB_kept hl h) (by decide) (by decide) rfl rfl (Nat.le_of_ble_eq_true rfl) dW_kept_5 (by rw [Nat.zero_add]; exact zc_le w1) (by rw [Nat.zero_add]; exact zs_le w1)) (fun v hv => ?_) (fun E n9 hE hn => ?_)
  · obtain ⟨i, rfl⟩ := ht v hv
    obtain ⟨N, f, e1, e2⟩ := ho _ hv
    refine g_last C e1 (h_in0 e2) dW_kept_8 ?_
    refine g_goto C 20 dW_kept_9 (by decide) ?_
    refine g_iconst (v := 0) C dW_kept_20 (by decide) ?_
    exact h_ret C X (by rw [Nat.zero_add]; exact zc_le w1) (by rw [Nat.zero_add]; exact zs_le w1) dW_kept_21 (Or.inl ⟨_, hv, rfl, rfl, by show _ = hOut _ _ _; unfold hOut; rw [e1]; rfl⟩)
  · have h9 := hx E hE
    simp only [List.map_cons, List.map_nil, List.mem_cons, List.not_mem_nil, or_false] at h9
    rcases h9 with rfl | rfl
    · refine h_catch C X [] 12 13 0 9 [(0, 9, 16, 15)] rfl ⟨by decide, by decide⟩ (by decide) nl_W_13 (by decide +kernel) (fun z hz => by cases hz) (fun q9 => ?_)
      refine g_astore (lv' := [(4, .ref q9), (0, .ref q), (1, .int p0), (2, .int p1), (3, .ref o)]) C dW_kept_12 (by decide) rfl ?_
      refine g_iconst (v := 1) C dW_kept_14 (by decide) ?_
      exact h_ret C X (by rw [Nat.zero_add]; exact zc_le w1) (by rw [Nat.zero_add]; exact zs_le w1) dW_kept_15 (Or.inr ⟨_, 1, hE, by simp, rfl, rfl, hn⟩)
    · refine h_catch C X [(0, 9, 12, 13)] 16 15 0 9 [] rfl ⟨by decide, by decide⟩ (by decide) nl_W_15 (by decide +kernel) (fun z hz => by
      simp only [List.mem_cons, List.not_mem_nil, or_false] at hz
      subst hz
      exact ⟨by decide, _, nl_W_13, by decide +kernel⟩) (fun q9 => ?_)
      refine g_astore (lv' := [(4, .ref q9), (0, .ref q), (1, .int p0), (2, .int p1), (3, .ref o)]) C dW_kept_16 (by decide) rfl ?_
      refine g_iconst (v := 2) C dW_kept_18 (by decide) ?_
      exact h_ret C X (by rw [Nat.zero_add]; exact zc_le w1) (by rw [Nat.zero_add]; exact zs_le w1) dW_kept_19 (Or.inr ⟨_, 2, hE, by simp, rfl, rfl, hn⟩)
set_option maxHeartbeats 4000000 in
set_option maxRecDepth 100000 in
theorem hW_keptRows {l : Launch} {D : va_G} {dA : Nat → ClassId} {V : zV} {n : Nat} (hl : l.stackTraces = false) {q : Nat} {p0 : Int32} {p1 : Int32} {o : Nat} {w1 : zR} {fs : List Value} (h : fB_keptRows V n q p0 p1 = some w1) (hq : V q = some (.inr (5, fs))) (ht : ∀ v, w1.1 = .inl v → ∃ i, v = some (.int i)) (ho : hO w1 o) (hx : ∀ E, w1.1 = .inr E → E ∈ ([("java/lang/IndexOutOfBoundsException", 1), ("java/lang/IllegalStateException", 2)] : List (String × Int32)).map (·.1)) : h_Met l ⟨"BarrierMarksLaw", "keptRows", "(LBarrierMarks;II[J)I"⟩ method_16_code 5 [(0, 10, 13, 13), (0, 10, 17, 15)] 9 148 1 6 [.ref q, .int p0, .int p1, .ref o] D dA V n (hP w1 [("java/lang/IndexOutOfBoundsException", 1), ("java/lang/IllegalStateException", 2)] n (fun v => hOut w1.2.1 o (hlong v))) := by
  refine h_ofG hl (by decide) (Nat.le_of_ble_eq_true rfl) (fun x C X => ?_)
  refine g_sub (lv' := [(0, .ref q), (1, .int p0), (2, .int p1), (3, .ref o)]) [0, 1, 2, 3] rfl ?_
  refine g_aload_n C 3 dW_keptRows_0 rfl rfl ?_
  refine g_iconst (v := 0) C dW_keptRows_1 (by decide) ?_
  refine g_aload_n C 0 dW_keptRows_2 rfl rfl ?_
  refine g_iload_n C 1 dW_keptRows_3 rfl rfl ?_
  refine g_iload_n C 2 dW_keptRows_4 rfl rfl ?_
  refine g_core (w1 := w1) C (g_runV (mc1 := (zc w1)) (ms1 := (zs w1)) (As := [.int p0, .int p1]) C cv_W_62 hq rfl (fun l D dA hl => mB_keptRows hl h) (by decide) (by decide) rfl rfl (Nat.le_of_ble_eq_true rfl) dW_keptRows_5 (by rw [Nat.zero_add]; exact zc_le w1) (by rw [Nat.zero_add]; exact zs_le w1)) (fun v hv => ?_) (fun E n9 hE hn => ?_)
  · obtain ⟨i, rfl⟩ := ht v hv
    obtain ⟨N, f, e1, e2⟩ := ho _ hv
    refine g_i2l C dW_keptRows_8 ?_
    refine g_last C e1 (h_in0 e2) dW_keptRows_9 ?_
    refine g_goto C 21 dW_keptRows_10 (by decide) ?_
    refine g_iconst (v := 0) C dW_keptRows_21 (by decide) ?_
    exact h_ret C X (by rw [Nat.zero_add]; exact zc_le w1) (by rw [Nat.zero_add]; exact zs_le w1) dW_keptRows_22 (Or.inl ⟨_, hv, rfl, rfl, by show _ = hOut _ _ _; unfold hOut; rw [e1]; rfl⟩)
  · have h9 := hx E hE
    simp only [List.map_cons, List.map_nil, List.mem_cons, List.not_mem_nil, or_false] at h9
    rcases h9 with rfl | rfl
    · refine h_catch C X [] 13 13 0 10 [(0, 10, 17, 15)] rfl ⟨by decide, by decide⟩ (by decide) nl_W_13 (by decide +kernel) (fun z hz => by cases hz) (fun q9 => ?_)
      refine g_astore (lv' := [(4, .ref q9), (0, .ref q), (1, .int p0), (2, .int p1), (3, .ref o)]) C dW_keptRows_13 (by decide) rfl ?_
      refine g_iconst (v := 1) C dW_keptRows_15 (by decide) ?_
      exact h_ret C X (by rw [Nat.zero_add]; exact zc_le w1) (by rw [Nat.zero_add]; exact zs_le w1) dW_keptRows_16 (Or.inr ⟨_, 1, hE, by simp, rfl, rfl, hn⟩)
    · refine h_catch C X [(0, 10, 13, 13)] 17 15 0 10 [] rfl ⟨by decide, by decide⟩ (by decide) nl_W_15 (by decide +kernel) (fun z hz => by
      simp only [List.mem_cons, List.not_mem_nil, or_false] at hz
      subst hz
      exact ⟨by decide, _, nl_W_13, by decide +kernel⟩) (fun q9 => ?_)
      refine g_astore (lv' := [(4, .ref q9), (0, .ref q), (1, .int p0), (2, .int p1), (3, .ref o)]) C dW_keptRows_17 (by decide) rfl ?_
      refine g_iconst (v := 2) C dW_keptRows_19 (by decide) ?_
      exact h_ret C X (by rw [Nat.zero_add]; exact zc_le w1) (by rw [Nat.zero_add]; exact zs_le w1) dW_keptRows_20 (Or.inr ⟨_, 2, hE, by simp, rfl, rfl, hn⟩)
set_option maxHeartbeats 4000000 in
set_option maxRecDepth 100000 in
theorem hW_position {l : Launch} {D : va_G} {dA : Nat → ClassId} {V : zV} {n : Nat} (hl : l.stackTraces = false) {q : Nat} {p0 : Int32} {p1 : Int32} {o : Nat} {w1 : zR} {fs : List Value} (h : fB_position V n q p0 p1 = some w1) (hq : V q = some (.inr (5, fs))) (ht : ∀ v, w1.1 = .inl v → ∃ i, v = some (.int i)) (ho : hO w1 o) (hx : ∀ E, w1.1 = .inr E → E ∈ ([("java/lang/IndexOutOfBoundsException", 1)] : List (String × Int32)).map (·.1)) : h_Met l ⟨"BarrierMarksLaw", "position", "(LBarrierMarks;II[J)I"⟩ method_17_code 5 [(0, 10, 13, 13)] 8 127 1 6 [.ref q, .int p0, .int p1, .ref o] D dA V n (hP w1 [("java/lang/IndexOutOfBoundsException", 1)] n (fun v => hOut w1.2.1 o (hlong v))) := by
  refine h_ofG hl (by decide) (Nat.le_of_ble_eq_true rfl) (fun x C X => ?_)
  refine g_sub (lv' := [(0, .ref q), (1, .int p0), (2, .int p1), (3, .ref o)]) [0, 1, 2, 3] rfl ?_
  refine g_aload_n C 3 dW_position_0 rfl rfl ?_
  refine g_iconst (v := 0) C dW_position_1 (by decide) ?_
  refine g_aload_n C 0 dW_position_2 rfl rfl ?_
  refine g_iload_n C 1 dW_position_3 rfl rfl ?_
  refine g_iload_n C 2 dW_position_4 rfl rfl ?_
  refine g_core (w1 := w1) C (g_runV (mc1 := (zc w1)) (ms1 := (zs w1)) (As := [.int p0, .int p1]) C cv_W_65 hq rfl (fun l D dA hl => mB_position hl h) (by decide) (by decide) rfl rfl (Nat.le_of_ble_eq_true rfl) dW_position_5 (by rw [Nat.zero_add]; exact zc_le w1) (by rw [Nat.zero_add]; exact zs_le w1)) (fun v hv => ?_) (fun E n9 hE hn => ?_)
  · obtain ⟨i, rfl⟩ := ht v hv
    obtain ⟨N, f, e1, e2⟩ := ho _ hv
    refine g_i2l C dW_position_8 ?_
    refine g_last C e1 (h_in0 e2) dW_position_9 ?_
    refine g_goto C 17 dW_position_10 (by decide) ?_
    refine g_iconst (v := 0) C dW_position_17 (by decide) ?_
    exact h_ret C X (by rw [Nat.zero_add]; exact zc_le w1) (by rw [Nat.zero_add]; exact zs_le w1) dW_position_18 (Or.inl ⟨_, hv, rfl, rfl, by show _ = hOut _ _ _; unfold hOut; rw [e1]; rfl⟩)
  · have h9 := hx E hE
    simp only [List.map_cons, List.map_nil, List.mem_cons, List.not_mem_nil, or_false] at h9
    subst h9
    refine h_catch C X [] 13 13 0 10 [] rfl ⟨by decide, by decide⟩ (by decide) nl_W_13 (by decide +kernel) (fun z hz => by cases hz) (fun q9 => ?_)
    refine g_astore (lv' := [(4, .ref q9), (0, .ref q), (1, .int p0), (2, .int p1), (3, .ref o)]) C dW_position_13 (by decide) rfl ?_
    refine g_iconst (v := 1) C dW_position_15 (by decide) ?_
    exact h_ret C X (by rw [Nat.zero_add]; exact zc_le w1) (by rw [Nat.zero_add]; exact zs_le w1) dW_position_16 (Or.inr ⟨_, 1, hE, by simp, rfl, rfl, hn⟩)
set_option maxHeartbeats 4000000 in
set_option maxRecDepth 100000 in
theorem hW_condition {l : Launch} {D : va_G} {dA : Nat → ClassId} {V : zV} {n : Nat} (hl : l.stackTraces = false) {q : Nat} {p0 : Int32} {o : Nat} {w1 : zR} {fs : List Value} (h : fB_condition V n q p0 = some w1) (hq : V q = some (.inr (5, fs))) (ht : ∀ v, w1.1 = .inl v → ∃ i, v = some (.int i)) (ho : hO w1 o) (hx : ∀ E, w1.1 = .inr E → E ∈ ([("java/lang/IndexOutOfBoundsException", 1)] : List (String × Int32)).map (·.1)) : h_Met l ⟨"BarrierMarksLaw", "condition", "(LBarrierMarks;I[J)I"⟩ method_18_code 4 [(0, 9, 12, 13)] 8 124 1 6 [.ref q, .int p0, .ref o] D dA V n (hP w1 [("java/lang/IndexOutOfBoundsException", 1)] n (fun v => hOut w1.2.1 o (hlong v))) := by
  refine h_ofG hl (by decide) (Nat.le_of_ble_eq_true rfl) (fun x C X => ?_)
  refine g_sub (lv' := [(0, .ref q), (1, .int p0), (2, .ref o)]) [0, 1, 2] rfl ?_
  refine g_aload_n C 2 dW_condition_0 rfl rfl ?_
  refine g_iconst (v := 0) C dW_condition_1 (by decide) ?_
  refine g_aload_n C 0 dW_condition_2 rfl rfl ?_
  refine g_iload_n C 1 dW_condition_3 rfl rfl ?_
  refine g_core (w1 := w1) C (g_runV (mc1 := (zc w1)) (ms1 := (zs w1)) (As := [.int p0]) C cv_W_68 hq rfl (fun l D dA hl => mB_condition hl h) (by decide) (by decide) rfl rfl (Nat.le_of_ble_eq_true rfl) dW_condition_4 (by rw [Nat.zero_add]; exact zc_le w1) (by rw [Nat.zero_add]; exact zs_le w1)) (fun v hv => ?_) (fun E n9 hE hn => ?_)
  · obtain ⟨i, rfl⟩ := ht v hv
    obtain ⟨N, f, e1, e2⟩ := ho _ hv
    refine g_i2l C dW_condition_7 ?_
    refine g_last C e1 (h_in0 e2) dW_condition_8 ?_
    refine g_goto C 15 dW_condition_9 (by decide) ?_
    refine g_iconst (v := 0) C dW_condition_15 (by decide) ?_
    exact h_ret C X (by rw [Nat.zero_add]; exact zc_le w1) (by rw [Nat.zero_add]; exact zs_le w1) dW_condition_16 (Or.inl ⟨_, hv, rfl, rfl, by show _ = hOut _ _ _; unfold hOut; rw [e1]; rfl⟩)
  · have h9 := hx E hE
    simp only [List.map_cons, List.map_nil, List.mem_cons, List.not_mem_nil, or_false] at h9
    subst h9
    refine h_catch C X [] 12 13 0 9 [] rfl ⟨by decide, by decide⟩ (by decide) nl_W_13 (by decide +kernel) (fun z hz => by cases hz) (fun q9 => ?_)
    refine g_astore_n (lv' := [(3, .ref q9), (0, .ref q), (1, .int p0), (2, .ref o)]) (i := 3) C dW_condition_12 rfl (by decide) rfl ?_
    refine g_iconst (v := 1) C dW_condition_13 (by decide) ?_
    exact h_ret C X (by rw [Nat.zero_add]; exact zc_le w1) (by rw [Nat.zero_add]; exact zs_le w1) dW_condition_14 (Or.inr ⟨_, 1, hE, by simp, rfl, rfl, hn⟩)
set_option maxHeartbeats 4000000 in
set_option maxRecDepth 100000 in
theorem hW_acknowledged {l : Launch} {D : va_G} {dA : Nat → ClassId} {V : zV} {n : Nat} (hl : l.stackTraces = false) {q : Nat} {p0 : Int32} {o : Nat} {w1 : zR} {fs : List Value} (h : fB_acknowledged V n q p0 = some w1) (hq : V q = some (.inr (5, fs))) (ht : ∀ v, w1.1 = .inl v → ∃ i, v = some (.int i)) (ho : hO w1 o) (hx : ∀ E, w1.1 = .inr E → E ∈ ([("java/lang/IndexOutOfBoundsException", 1)] : List (String × Int32)).map (·.1)) : h_Met l ⟨"BarrierMarksLaw", "acknowledged", "(LBarrierMarks;I[J)I"⟩ method_19_code 4 [(0, 9, 12, 13)] 8 124 1 6 [.ref q, .int p0, .ref o] D dA V n (hP w1 [("java/lang/IndexOutOfBoundsException", 1)] n (fun v => hOut w1.2.1 o (hlong v))) := by
  refine h_ofG hl (by decide) (Nat.le_of_ble_eq_true rfl) (fun x C X => ?_)
  refine g_sub (lv' := [(0, .ref q), (1, .int p0), (2, .ref o)]) [0, 1, 2] rfl ?_
  refine g_aload_n C 2 dW_acknowledged_0 rfl rfl ?_
  refine g_iconst (v := 0) C dW_acknowledged_1 (by decide) ?_
  refine g_aload_n C 0 dW_acknowledged_2 rfl rfl ?_
  refine g_iload_n C 1 dW_acknowledged_3 rfl rfl ?_
  refine g_core (w1 := w1) C (g_runV (mc1 := (zc w1)) (ms1 := (zs w1)) (As := [.int p0]) C cv_W_71 hq rfl (fun l D dA hl => mB_acknowledged hl h) (by decide) (by decide) rfl rfl (Nat.le_of_ble_eq_true rfl) dW_acknowledged_4 (by rw [Nat.zero_add]; exact zc_le w1) (by rw [Nat.zero_add]; exact zs_le w1)) (fun v hv => ?_) (fun E n9 hE hn => ?_)
  · obtain ⟨i, rfl⟩ := ht v hv
    obtain ⟨N, f, e1, e2⟩ := ho _ hv
    refine g_i2l C dW_acknowledged_7 ?_
    refine g_last C e1 (h_in0 e2) dW_acknowledged_8 ?_
    refine g_goto C 15 dW_acknowledged_9 (by decide) ?_
    refine g_iconst (v := 0) C dW_acknowledged_15 (by decide) ?_
    exact h_ret C X (by rw [Nat.zero_add]; exact zc_le w1) (by rw [Nat.zero_add]; exact zs_le w1) dW_acknowledged_16 (Or.inl ⟨_, hv, rfl, rfl, by show _ = hOut _ _ _; unfold hOut; rw [e1]; rfl⟩)
  · have h9 := hx E hE
    simp only [List.map_cons, List.map_nil, List.mem_cons, List.not_mem_nil, or_false] at h9
    subst h9
    refine h_catch C X [] 12 13 0 9 [] rfl ⟨by decide, by decide⟩ (by decide) nl_W_13 (by decide +kernel) (fun z hz => by cases hz) (fun q9 => ?_)
    refine g_astore_n (lv' := [(3, .ref q9), (0, .ref q), (1, .int p0), (2, .ref o)]) (i := 3) C dW_acknowledged_12 rfl (by decide) rfl ?_
    refine g_iconst (v := 1) C dW_acknowledged_13 (by decide) ?_
    exact h_ret C X (by rw [Nat.zero_add]; exact zc_le w1) (by rw [Nat.zero_add]; exact zs_le w1) dW_acknowledged_14 (Or.inr ⟨_, 1, hE, by simp, rfl, rfl, hn⟩)
set_option maxHeartbeats 4000000 in
set_option maxRecDepth 100000 in
theorem hW_exact {l : Launch} {D : va_G} {dA : Nat → ClassId} {V : zV} {n : Nat} (hl : l.stackTraces = false) {q : Nat} {p0 : Int32} {o : Nat} {w1 : zR} {fs : List Value} (h : fB_exact V n q p0 = some w1) (hq : V q = some (.inr (5, fs))) (ht : ∀ v, w1.1 = .inl v → ∃ i, v = some (.int i)) (ho : hO w1 o) (hx : ∀ E, w1.1 = .inr E → E ∈ ([("java/lang/IndexOutOfBoundsException", 1), ("java/lang/IllegalStateException", 2)] : List (String × Int32)).map (·.1)) : h_Met l ⟨"BarrierMarksLaw", "exact", "(LBarrierMarks;I[J)I"⟩ method_20_code 4 [(0, 16, 19, 13), (0, 16, 22, 15)] 9 148 1 6 [.ref q, .int p0, .ref o] D dA V n (hP w1 [("java/lang/IndexOutOfBoundsException", 1), ("java/lang/IllegalStateException", 2)] n (fun v => hOut w1.2.1 o (hbool v))) := by
  refine h_ofG hl (by decide) (Nat.le_of_ble_eq_true rfl) (fun x C X => ?_)
  refine g_sub (lv' := [(0, .ref q), (1, .int p0), (2, .ref o)]) [0, 1, 2] rfl ?_
  refine g_aload_n C 2 dW_exact_0 rfl rfl ?_
  refine g_iconst (v := 0) C dW_exact_1 (by decide) ?_
  refine g_aload_n C 0 dW_exact_2 rfl rfl ?_
  refine g_iload_n C 1 dW_exact_3 rfl rfl ?_
  refine g_core (w1 := w1) C (g_runV (mc1 := (zc w1)) (ms1 := (zs w1)) (As := [.int p0]) C cv_W_74 hq rfl (fun l D dA hl => mB_exact hl h) (by decide) (by decide) rfl rfl (Nat.le_of_ble_eq_true rfl) dW_exact_4 (by rw [Nat.zero_add]; exact zc_le w1) (by rw [Nat.zero_add]; exact zs_le w1)) (fun v hv => ?_) (fun E n9 hE hn => ?_)
  · obtain ⟨i, rfl⟩ := ht v hv
    obtain ⟨N, f, e1, e2⟩ := ho _ hv
    refine g_if_eq C 14 dW_exact_7 (by decide) (fun hz => ?_) (fun hz => ?_)
    · refine g_lconst (v := 0) C dW_exact_14 (by decide) ?_
      refine g_last C e1 (h_in0 e2) dW_exact_15 ?_
      refine g_goto C 25 dW_exact_16 (by decide) ?_
      refine g_iconst (v := 0) C dW_exact_25 (by decide) ?_
      exact h_ret C X (by rw [Nat.zero_add]; exact zc_le w1) (by rw [Nat.zero_add]; exact zs_le w1) dW_exact_26 (Or.inl ⟨_, hv, rfl, rfl, by show _ = hOut _ _ _; unfold hOut; rw [e1]; show _ = z_up _ _ (.inl (_, _, .inr (.inl (vp_updL f 0 (if i = 0 then 0 else 1))))); rw [if_pos hz]; rfl⟩)
    · refine g_lconst (v := 1) C dW_exact_10 (by decide) ?_
      refine g_goto C 15 dW_exact_11 (by decide) ?_
      refine g_last C e1 (h_in0 e2) dW_exact_15 ?_
      refine g_goto C 25 dW_exact_16 (by decide) ?_
      refine g_iconst (v := 0) C dW_exact_25 (by decide) ?_
      exact h_ret C X (by rw [Nat.zero_add]; exact zc_le w1) (by rw [Nat.zero_add]; exact zs_le w1) dW_exact_26 (Or.inl ⟨_, hv, rfl, rfl, by show _ = hOut _ _ _; unfold hOut; rw [e1]; show _ = z_up _ _ (.inl (_, _, .inr (.inl (vp_updL f 0 (if i = 0 then 0 else 1))))); rw [if_neg hz]; rfl⟩)
  · have h9 := hx E hE
    simp only [List.map_cons, List.map_nil, List.mem_cons, List.not_mem_nil, or_false] at h9
    rcases h9 with rfl | rfl
    · refine h_catch C X [] 19 13 0 16 [(0, 16, 22, 15)] rfl ⟨by decide, by decide⟩ (by decide) nl_W_13 (by decide +kernel) (fun z hz => by cases hz) (fun q9 => ?_)
      refine g_astore_n (lv' := [(3, .ref q9), (0, .ref q), (1, .int p0), (2, .ref o)]) (i := 3) C dW_exact_19 rfl (by decide) rfl ?_
      refine g_iconst (v := 1) C dW_exact_20 (by decide) ?_
      exact h_ret C X (by rw [Nat.zero_add]; exact zc_le w1) (by rw [Nat.zero_add]; exact zs_le w1) dW_exact_21 (Or.inr ⟨_, 1, hE, by simp, rfl, rfl, hn⟩)
    · refine h_catch C X [(0, 16, 19, 13)] 22 15 0 16 [] rfl ⟨by decide, by decide⟩ (by decide) nl_W_15 (by decide +kernel) (fun z hz => by
      simp only [List.mem_cons, List.not_mem_nil, or_false] at hz
      subst hz
      exact ⟨by decide, _, nl_W_13, by decide +kernel⟩) (fun q9 => ?_)
      refine g_astore_n (lv' := [(3, .ref q9), (0, .ref q), (1, .int p0), (2, .ref o)]) (i := 3) C dW_exact_22 rfl (by decide) rfl ?_
      refine g_iconst (v := 2) C dW_exact_23 (by decide) ?_
      exact h_ret C X (by rw [Nat.zero_add]; exact zc_le w1) (by rw [Nat.zero_add]; exact zs_le w1) dW_exact_24 (Or.inr ⟨_, 2, hE, by simp, rfl, rfl, hn⟩)
set_option maxHeartbeats 4000000 in
set_option maxRecDepth 100000 in
theorem hW_held {l : Launch} {D : va_G} {dA : Nat → ClassId} {V : zV} {n : Nat} (hl : l.stackTraces = false) {q : Nat} {p0 : Int32} {o : Nat} {w1 : zR} {fs : List Value} (h : fB_held V n q p0 = some w1) (hq : V q = some (.inr (5, fs))) (ht : ∀ v, w1.1 = .inl v → ∃ i, v = some (.int i)) (ho : hO w1 o) (hx : ∀ E, w1.1 = .inr E → E ∈ ([("java/lang/IndexOutOfBoundsException", 1)] : List (String × Int32)).map (·.1)) : h_Met l ⟨"BarrierMarksLaw", "held", "(LBarrierMarks;I[J)I"⟩ method_21_code 4 [(0, 9, 12, 13)] 8 124 1 6 [.ref q, .int p0, .ref o] D dA V n (hP w1 [("java/lang/IndexOutOfBoundsException", 1)] n (fun v => hOut w1.2.1 o (hlong v))) := by
  refine h_ofG hl (by decide) (Nat.le_of_ble_eq_true rfl) (fun x C X => ?_)
  refine g_sub (lv' := [(0, .ref q), (1, .int p0), (2, .ref o)]) [0, 1, 2] rfl ?_
  refine g_aload_n C 2 dW_held_0 rfl rfl ?_
  refine g_iconst (v := 0) C dW_held_1 (by decide) ?_
  refine g_aload_n C 0 dW_held_2 rfl rfl ?_
  refine g_iload_n C 1 dW_held_3 rfl rfl ?_
  refine g_core (w1 := w1) C (g_runV (mc1 := (zc w1)) (ms1 := (zs w1)) (As := [.int p0]) C cv_W_78 hq rfl (fun l D dA hl => mB_held hl h) (by decide) (by decide) rfl rfl (Nat.le_of_ble_eq_true rfl) dW_held_4 (by rw [Nat.zero_add]; exact zc_le w1) (by rw [Nat.zero_add]; exact zs_le w1)) (fun v hv => ?_) (fun E n9 hE hn => ?_)
  · obtain ⟨i, rfl⟩ := ht v hv
    obtain ⟨N, f, e1, e2⟩ := ho _ hv
    refine g_i2l C dW_held_7 ?_
    refine g_last C e1 (h_in0 e2) dW_held_8 ?_
    refine g_goto C 15 dW_held_9 (by decide) ?_
    refine g_iconst (v := 0) C dW_held_15 (by decide) ?_
    exact h_ret C X (by rw [Nat.zero_add]; exact zc_le w1) (by rw [Nat.zero_add]; exact zs_le w1) dW_held_16 (Or.inl ⟨_, hv, rfl, rfl, by show _ = hOut _ _ _; unfold hOut; rw [e1]; rfl⟩)
  · have h9 := hx E hE
    simp only [List.map_cons, List.map_nil, List.mem_cons, List.not_mem_nil, or_false] at h9
    subst h9
    refine h_catch C X [] 12 13 0 9 [] rfl ⟨by decide, by decide⟩ (by decide) nl_W_13 (by decide +kernel) (fun z hz => by cases hz) (fun q9 => ?_)
    refine g_astore_n (lv' := [(3, .ref q9), (0, .ref q), (1, .int p0), (2, .ref o)]) (i := 3) C dW_held_12 rfl (by decide) rfl ?_
    refine g_iconst (v := 1) C dW_held_13 (by decide) ?_
    exact h_ret C X (by rw [Nat.zero_add]; exact zc_le w1) (by rw [Nat.zero_add]; exact zs_le w1) dW_held_14 (Or.inr ⟨_, 1, hE, by simp, rfl, rfl, hn⟩)
set_option maxHeartbeats 4000000 in
set_option maxRecDepth 100000 in
theorem hW_waiting {l : Launch} {D : va_G} {dA : Nat → ClassId} {V : zV} {n : Nat} (hl : l.stackTraces = false) {q : Nat} {p0 : Int32} {o : Nat} {w1 : zR} {fs : List Value} (h : fB_waiting V n q p0 = some w1) (hq : V q = some (.inr (5, fs))) (ht : ∀ v, w1.1 = .inl v → ∃ i, v = some (.int i)) (ho : hO w1 o) (hx : ∀ E, w1.1 = .inr E → E ∈ ([("java/lang/IndexOutOfBoundsException", 1)] : List (String × Int32)).map (·.1)) : h_Met l ⟨"BarrierMarksLaw", "waiting", "(LBarrierMarks;I[J)I"⟩ method_22_code 4 [(0, 9, 12, 13)] 8 124 1 6 [.ref q, .int p0, .ref o] D dA V n (hP w1 [("java/lang/IndexOutOfBoundsException", 1)] n (fun v => hOut w1.2.1 o (hlong v))) := by
  refine h_ofG hl (by decide) (Nat.le_of_ble_eq_true rfl) (fun x C X => ?_)
  refine g_sub (lv' := [(0, .ref q), (1, .int p0), (2, .ref o)]) [0, 1, 2] rfl ?_
  refine g_aload_n C 2 dW_waiting_0 rfl rfl ?_
  refine g_iconst (v := 0) C dW_waiting_1 (by decide) ?_
  refine g_aload_n C 0 dW_waiting_2 rfl rfl ?_
  refine g_iload_n C 1 dW_waiting_3 rfl rfl ?_
  refine g_core (w1 := w1) C (g_runV (mc1 := (zc w1)) (ms1 := (zs w1)) (As := [.int p0]) C cv_W_81 hq rfl (fun l D dA hl => mB_waiting hl h) (by decide) (by decide) rfl rfl (Nat.le_of_ble_eq_true rfl) dW_waiting_4 (by rw [Nat.zero_add]; exact zc_le w1) (by rw [Nat.zero_add]; exact zs_le w1)) (fun v hv => ?_) (fun E n9 hE hn => ?_)
  · obtain ⟨i, rfl⟩ := ht v hv
    obtain ⟨N, f, e1, e2⟩ := ho _ hv
    refine g_i2l C dW_waiting_7 ?_
    refine g_last C e1 (h_in0 e2) dW_waiting_8 ?_
    refine g_goto C 15 dW_waiting_9 (by decide) ?_
    refine g_iconst (v := 0) C dW_waiting_15 (by decide) ?_
    exact h_ret C X (by rw [Nat.zero_add]; exact zc_le w1) (by rw [Nat.zero_add]; exact zs_le w1) dW_waiting_16 (Or.inl ⟨_, hv, rfl, rfl, by show _ = hOut _ _ _; unfold hOut; rw [e1]; rfl⟩)
  · have h9 := hx E hE
    simp only [List.map_cons, List.map_nil, List.mem_cons, List.not_mem_nil, or_false] at h9
    subst h9
    refine h_catch C X [] 12 13 0 9 [] rfl ⟨by decide, by decide⟩ (by decide) nl_W_13 (by decide +kernel) (fun z hz => by cases hz) (fun q9 => ?_)
    refine g_astore_n (lv' := [(3, .ref q9), (0, .ref q), (1, .int p0), (2, .ref o)]) (i := 3) C dW_waiting_12 rfl (by decide) rfl ?_
    refine g_iconst (v := 1) C dW_waiting_13 (by decide) ?_
    exact h_ret C X (by rw [Nat.zero_add]; exact zc_le w1) (by rw [Nat.zero_add]; exact zs_le w1) dW_waiting_14 (Or.inr ⟨_, 1, hE, by simp, rfl, rfl, hn⟩)
set_option maxHeartbeats 4000000 in
set_option maxRecDepth 100000 in
theorem hW_kind {l : Launch} {D : va_G} {dA : Nat → ClassId} {V : zV} {n : Nat} (hl : l.stackTraces = false) {q : Nat} {p0 : Int32} {p1 : Int32} {o : Nat} {w1 : zR} {fs : List Value} (h : fB_kind V n q p0 p1 = some w1) (hq : V q = some (.inr (5, fs))) (ht : ∀ v, w1.1 = .inl v → ∃ i, v = some (.int i)) (ho : hO w1 o) (hx : ∀ E, w1.1 = .inr E → E ∈ ([("java/lang/IndexOutOfBoundsException", 1)] : List (String × Int32)).map (·.1)) : h_Met l ⟨"BarrierMarksLaw", "kind", "(LBarrierMarks;II[J)I"⟩ method_23_code 5 [(0, 10, 13, 13)] 9 149 1 6 [.ref q, .int p0, .int p1, .ref o] D dA V n (hP w1 [("java/lang/IndexOutOfBoundsException", 1)] n (fun v => hOut w1.2.1 o (hlong v))) := by
  refine h_ofG hl (by decide) (Nat.le_of_ble_eq_true rfl) (fun x C X => ?_)
  refine g_sub (lv' := [(0, .ref q), (1, .int p0), (2, .int p1), (3, .ref o)]) [0, 1, 2, 3] rfl ?_
  refine g_aload_n C 3 dW_kind_0 rfl rfl ?_
  refine g_iconst (v := 0) C dW_kind_1 (by decide) ?_
  refine g_aload_n C 0 dW_kind_2 rfl rfl ?_
  refine g_iload_n C 1 dW_kind_3 rfl rfl ?_
  refine g_iload_n C 2 dW_kind_4 rfl rfl ?_
  refine g_core (w1 := w1) C (g_runV (mc1 := (zc w1)) (ms1 := (zs w1)) (As := [.int p0, .int p1]) C cv_W_84 hq rfl (fun l D dA hl => mB_kind hl h) (by decide) (by decide) rfl rfl (Nat.le_of_ble_eq_true rfl) dW_kind_5 (by rw [Nat.zero_add]; exact zc_le w1) (by rw [Nat.zero_add]; exact zs_le w1)) (fun v hv => ?_) (fun E n9 hE hn => ?_)
  · obtain ⟨i, rfl⟩ := ht v hv
    obtain ⟨N, f, e1, e2⟩ := ho _ hv
    refine g_i2l C dW_kind_8 ?_
    refine g_last C e1 (h_in0 e2) dW_kind_9 ?_
    refine g_goto C 17 dW_kind_10 (by decide) ?_
    refine g_iconst (v := 0) C dW_kind_17 (by decide) ?_
    exact h_ret C X (by rw [Nat.zero_add]; exact zc_le w1) (by rw [Nat.zero_add]; exact zs_le w1) dW_kind_18 (Or.inl ⟨_, hv, rfl, rfl, by show _ = hOut _ _ _; unfold hOut; rw [e1]; rfl⟩)
  · have h9 := hx E hE
    simp only [List.map_cons, List.map_nil, List.mem_cons, List.not_mem_nil, or_false] at h9
    subst h9
    refine h_catch C X [] 13 13 0 10 [] rfl ⟨by decide, by decide⟩ (by decide) nl_W_13 (by decide +kernel) (fun z hz => by cases hz) (fun q9 => ?_)
    refine g_astore (lv' := [(4, .ref q9), (0, .ref q), (1, .int p0), (2, .int p1), (3, .ref o)]) C dW_kind_13 (by decide) rfl ?_
    refine g_iconst (v := 1) C dW_kind_15 (by decide) ?_
    exact h_ret C X (by rw [Nat.zero_add]; exact zc_le w1) (by rw [Nat.zero_add]; exact zs_le w1) dW_kind_16 (Or.inr ⟨_, 1, hE, by simp, rfl, rfl, hn⟩)
set_option maxHeartbeats 4000000 in
set_option maxRecDepth 100000 in
theorem hW_value {l : Launch} {D : va_G} {dA : Nat → ClassId} {V : zV} {n : Nat} (hl : l.stackTraces = false) {q : Nat} {p0 : Int32} {p1 : Int32} {o : Nat} {w1 : zR} {fs : List Value} (h : fB_value V n q p0 p1 = some w1) (hq : V q = some (.inr (5, fs))) (ht : ∀ v, w1.1 = .inl v → ∃ i, v = some (.long i)) (ho : hO w1 o) (hx : ∀ E, w1.1 = .inr E → E ∈ ([("java/lang/IndexOutOfBoundsException", 1)] : List (String × Int32)).map (·.1)) : h_Met l ⟨"BarrierMarksLaw", "value", "(LBarrierMarks;II[J)I"⟩ method_24_code 5 [(0, 9, 12, 13)] 9 149 1 6 [.ref q, .int p0, .int p1, .ref o] D dA V n (hP w1 [("java/lang/IndexOutOfBoundsException", 1)] n (fun v => hOut w1.2.1 o (hlong v))) := by
  refine h_ofG hl (by decide) (Nat.le_of_ble_eq_true rfl) (fun x C X => ?_)
  refine g_sub (lv' := [(0, .ref q), (1, .int p0), (2, .int p1), (3, .ref o)]) [0, 1, 2, 3] rfl ?_
  refine g_aload_n C 3 dW_value_0 rfl rfl ?_
  refine g_iconst (v := 0) C dW_value_1 (by decide) ?_
  refine g_aload_n C 0 dW_value_2 rfl rfl ?_
  refine g_iload_n C 1 dW_value_3 rfl rfl ?_
  refine g_iload_n C 2 dW_value_4 rfl rfl ?_
  refine g_core (w1 := w1) C (g_runV (mc1 := (zc w1)) (ms1 := (zs w1)) (As := [.int p0, .int p1]) C cv_W_87 hq rfl (fun l D dA hl => mB_value hl h) (by decide) (by decide) rfl rfl (Nat.le_of_ble_eq_true rfl) dW_value_5 (by rw [Nat.zero_add]; exact zc_le w1) (by rw [Nat.zero_add]; exact zs_le w1)) (fun v hv => ?_) (fun E n9 hE hn => ?_)
  · obtain ⟨i, rfl⟩ := ht v hv
    obtain ⟨N, f, e1, e2⟩ := ho _ hv
    refine g_last C e1 (h_in0 e2) dW_value_8 ?_
    refine g_goto C 16 dW_value_9 (by decide) ?_
    refine g_iconst (v := 0) C dW_value_16 (by decide) ?_
    exact h_ret C X (by rw [Nat.zero_add]; exact zc_le w1) (by rw [Nat.zero_add]; exact zs_le w1) dW_value_17 (Or.inl ⟨_, hv, rfl, rfl, by show _ = hOut _ _ _; unfold hOut; rw [e1]; rfl⟩)
  · have h9 := hx E hE
    simp only [List.map_cons, List.map_nil, List.mem_cons, List.not_mem_nil, or_false] at h9
    subst h9
    refine h_catch C X [] 12 13 0 9 [] rfl ⟨by decide, by decide⟩ (by decide) nl_W_13 (by decide +kernel) (fun z hz => by cases hz) (fun q9 => ?_)
    refine g_astore (lv' := [(4, .ref q9), (0, .ref q), (1, .int p0), (2, .int p1), (3, .ref o)]) C dW_value_12 (by decide) rfl ?_
    refine g_iconst (v := 1) C dW_value_14 (by decide) ?_
    exact h_ret C X (by rw [Nat.zero_add]; exact zc_le w1) (by rw [Nat.zero_add]; exact zs_le w1) dW_value_15 (Or.inr ⟨_, 1, hE, by simp, rfl, rfl, hn⟩)
set_option maxHeartbeats 4000000 in
set_option maxRecDepth 100000 in
theorem hW_told {l : Launch} {D : va_G} {dA : Nat → ClassId} {V : zV} {n : Nat} (hl : l.stackTraces = false) {q : Nat} {p0 : Int32} {o : Nat} {w1 : zR} {fs : List Value} (h : fB_told V n q p0 = some w1) (hq : V q = some (.inr (5, fs))) (ht : ∀ v, w1.1 = .inl v → ∃ i, v = some (.int i)) (ho : hO w1 o) (hx : ∀ E, w1.1 = .inr E → E ∈ ([("java/lang/IllegalArgumentException", 1)] : List (String × Int32)).map (·.1)) : h_Met l ⟨"BarrierMarksLaw", "told", "(LBarrierMarks;I[J)I"⟩ method_25_code 4 [(0, 9, 12, 17)] 7 103 1 6 [.ref q, .int p0, .ref o] D dA V n (hP w1 [("java/lang/IllegalArgumentException", 1)] n (fun v => hOut w1.2.1 o (hlong v))) := by
  refine h_ofG hl (by decide) (Nat.le_of_ble_eq_true rfl) (fun x C X => ?_)
  refine g_sub (lv' := [(0, .ref q), (1, .int p0), (2, .ref o)]) [0, 1, 2] rfl ?_
  refine g_aload_n C 2 dW_told_0 rfl rfl ?_
  refine g_iconst (v := 0) C dW_told_1 (by decide) ?_
  refine g_aload_n C 0 dW_told_2 rfl rfl ?_
  refine g_iload_n C 1 dW_told_3 rfl rfl ?_
  refine g_core (w1 := w1) C (g_runV (mc1 := (zc w1)) (ms1 := (zs w1)) (As := [.int p0]) C cv_W_90 hq rfl (fun l D dA hl => mB_told hl h) (by decide) (by decide) rfl rfl (Nat.le_of_ble_eq_true rfl) dW_told_4 (by rw [Nat.zero_add]; exact zc_le w1) (by rw [Nat.zero_add]; exact zs_le w1)) (fun v hv => ?_) (fun E n9 hE hn => ?_)
  · obtain ⟨i, rfl⟩ := ht v hv
    obtain ⟨N, f, e1, e2⟩ := ho _ hv
    refine g_i2l C dW_told_7 ?_
    refine g_last C e1 (h_in0 e2) dW_told_8 ?_
    refine g_goto C 15 dW_told_9 (by decide) ?_
    refine g_iconst (v := 0) C dW_told_15 (by decide) ?_
    exact h_ret C X (by rw [Nat.zero_add]; exact zc_le w1) (by rw [Nat.zero_add]; exact zs_le w1) dW_told_16 (Or.inl ⟨_, hv, rfl, rfl, by show _ = hOut _ _ _; unfold hOut; rw [e1]; rfl⟩)
  · have h9 := hx E hE
    simp only [List.map_cons, List.map_nil, List.mem_cons, List.not_mem_nil, or_false] at h9
    subst h9
    refine h_catch C X [] 12 17 0 9 [] rfl ⟨by decide, by decide⟩ (by decide) nl_W_17 (by decide +kernel) (fun z hz => by cases hz) (fun q9 => ?_)
    refine g_astore_n (lv' := [(3, .ref q9), (0, .ref q), (1, .int p0), (2, .ref o)]) (i := 3) C dW_told_12 rfl (by decide) rfl ?_
    refine g_iconst (v := 1) C dW_told_13 (by decide) ?_
    exact h_ret C X (by rw [Nat.zero_add]; exact zc_le w1) (by rw [Nat.zero_add]; exact zs_le w1) dW_told_14 (Or.inr ⟨_, 1, hE, by simp, rfl, rfl, hn⟩)
