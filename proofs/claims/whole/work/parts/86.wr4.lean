/-! the reference's channel -/
def bitI (a : Int32) (k : Nat) : Bool := a.toBitVec.getLsbD k
theorem bit_one32 : ∀ k, k < 8 → ∀ j, j < 32 → bitI ((1 : Int32) <<< (nI k &&& 31)) j = (j == k) := by decide
theorem bit_or (a b : Int32) (j : Nat) : bitI (a ||| b) j = (bitI a j || bitI b j) := by
  unfold bitI
  rw [Int32.toBitVec_or, BitVec.getLsbD_or]
theorem bit_and (a b : Int32) (j : Nat) : bitI (a &&& b) j = (bitI a j && bitI b j) := by
  unfold bitI
  rw [Int32.toBitVec_and, BitVec.getLsbD_and]
theorem bit_ext {a b : Int32} (h : ∀ j, j < 32 → bitI a j = bitI b j) : a = b := Int32.toBitVec_inj.mp (BitVec.eq_of_getLsbD_eq fun j hj => h j hj)
theorem bit_and0 (a : Int32) {k : Nat} (hk : k < 8) : (a &&& ((1 : Int32) <<< (nI k &&& 31)) = 0) ↔ bitI a k = false := by
  have h0 : ∀ j, bitI 0 j = false := fun j => by unfold bitI; show (0#32).getLsbD j = false; exact BitVec.getLsbD_zero
  constructor
  · intro h
    have h1 := congrArg (fun y => bitI y k) h
    rw [bit_and, bit_one32 k hk k (by omega), h0] at h1
    simpa using h1
  · intro h
    refine bit_ext fun j hj => ?_
    rw [bit_and, bit_one32 k hk j hj, h0]
    by_cases q : j = k
    · rw [q, h]; rfl
    · rw [bqf q, Bool.and_false]
theorem sh_bits : ∀ k, k < 8 → ((nI k &&& 31).toBitVec.smod 32).toNat = k := by decide
theorem bit_shr (a : Int32) {k : Nat} (hk : k < 8) : bitI (a >>> (nI k &&& 31)) 0 = bitI a k := by
  unfold bitI
  rw [Int32.toBitVec_shiftRight, BitVec.sshiftRight_eq', BitVec.getLsbD_sshiftRight, sh_bits k hk]
  have h1 : k + 0 < 32 := by omega
  simp [show k < 32 by omega]
theorem bit_1 (j : Nat) : bitI 1 j = (j == 0) := by
  unfold bitI
  show (1#32).getLsbD j = _
  rw [BitVec.getLsbD_one]
  by_cases q : j = 0
  · rw [q]; rfl
  · simp [q]
theorem bit_sh1 (a : Int32) {k : Nat} (hk : k < 8) : ((a >>> (nI k &&& 31)) &&& (1 : Int32) = 1) ↔ bitI a k = true := by
  rw [← bit_shr a hk]
  constructor
  · intro h
    have h1 := congrArg (fun y => bitI y 0) h
    rw [bit_and, bit_1] at h1
    simpa using h1
  · intro h
    refine bit_ext fun j hj => ?_
    rw [bit_and, bit_1]
    by_cases q : j = 0
    · rw [q, h]; rfl
    · rw [bqf q, Bool.and_false]
/-- the tasks to which rows come -/
def rC (s : zSt) (F : Nat → Bool) (c : Nat) : Nat → Bool := match s_fr s c with
  | none => F
  | some k => if F k = true then fu F (s_to s c) true else F
def rIt (s : zSt) : Nat → (Nat → Bool) → Nat → Bool
  | 0, F => F
  | d + 1, F => rIt s d ((List.range' 0 (s_C s)).foldl (rC s) F)
def reachS (s : zSt) (x : Nat) : Nat → Bool := rIt s (s_N s) (fu (fun _ => false) x true)
def rep (a : Int32) (F : Nat → Bool) : Prop := ∀ k, k < 8 → bitI a k = F k
theorem rep_or {a : Int32} {F : Nat → Bool} (h : rep a F) {k : Nat} (hk : k < 8) : rep (a ||| ((1 : Int32) <<< (nI k &&& 31))) (fu F k true) := by
  intro j hj
  rw [bit_or, bit_one32 k hk j (by omega), h j hj]
  show _ = if j = k then true else F j
  by_cases q : j = k
  · rw [q, if_pos rfl, beq_self_eq_true, Bool.or_true]
  · rw [if_neg q, bqf q, Bool.or_false]
theorem rep_one {x : Nat} (hx : x < 8) : rep ((1 : Int32) <<< (nI x &&& 31)) (fu (fun _ => false) x true) := by
  intro j hj
  rw [bit_one32 x hx j (by omega)]
  show _ = if j = x then true else false
  by_cases q : j = x
  · rw [q, if_pos rfl, beq_self_eq_true]
  · rw [if_neg q, bqf q]
def channelS (s : zSt) (k : Option Nat) (b : Nat) : zSt := u_C (u_to (u_fr s (fu (s_fr s) (s_C s) k)) (fu (s_to s) (s_C s) b)) (s_C s + 1)
theorem hI_snoc {α β : Type} (G : β → α) {f : Nat → α} {n : Nat} {g : Nat → β} {v : α} {a : β} (H : hI f n (fun x => G (g x))) (hv : v = G a) : hI (fu f n v) (n + 1) (fun x => G (fu g n a x)) := by
  intro x hx
  show (if x = n then v else f x) = G (if x = n then a else g x)
  by_cases q : x = n
  · rw [if_pos q, if_pos q, hv]
  · rw [if_neg q, if_neg q]; exact H x (by omega)
section PM
variable {e : pE} {t : pS} {s : zSt} {n : Nat}
set_option maxHeartbeats 2000000 in
theorem Mod.v_chan (M : Mod t s) {k : Option Nat} {b : Nat} : Mod (wI (uI (uI t 6 0 5 (fu (rI t 6 0 5) (s_C s) (o2i k))) 6 0 6 (fu (rI t 6 0 6) (s_C s) (nI b))) 6 0 7 (nI (s_C s + 1))) (channelS s k b) := by
  unfold Mod channelS
  simp only [rI_uI, rI_uJ, rI_wI, rJ_uJ, rJ_uI, rJ_wI, qI_wI, qI_uI, qI_uJ, and_true, true_and, and_false, false_and, and_self, ↓reduceIte, Nat.reduceEqDiff, y_N_C, y_fr_C, y_to_C, y_tol_C, y_sum_C, y_rows_C, y_ended_C, y_latest_C, y_q_C, y_log_C, y_fin_C, y_stand_C, y_over_C, y_held_C, y_M_C, y_cond_C, y_pos_C, y_came_C, y_kept_C, y_kEnd_C, y_kSum_C, y_kRows_C, y_fails_C, y_taken_C, y_acks_C, su_C, y_N_to, y_C_to, y_fr_to, y_tol_to, y_sum_to, y_rows_to, y_ended_to, y_latest_to, y_q_to, y_log_to, y_fin_to, y_stand_to, y_over_to, y_held_to, y_M_to, y_cond_to, y_pos_to, y_came_to, y_kept_to, y_kEnd_to, y_kSum_to, y_kRows_to, y_fails_to, y_taken_to, y_acks_to, su_to, y_N_fr, y_C_fr, y_to_fr, y_tol_fr, y_sum_fr, y_rows_fr, y_ended_fr, y_latest_fr, y_q_fr, y_log_fr, y_fin_fr, y_stand_fr, y_over_fr, y_held_fr, y_M_fr, y_cond_fr, y_pos_fr, y_came_fr, y_kept_fr, y_kEnd_fr, y_kSum_fr, y_kRows_fr, y_fails_fr, y_taken_fr, y_acks_fr, su_fr]
  exact ⟨M.c_f0, M.c_f2, M.c_f19, M.c_f29, M.c_r1, M.c_r2, M.c_r3, M.c_r4, hI_snoc o2i M.c_r5 rfl, hI_snoc nI M.c_r6 rfl, M.c_q7, M.c_q8, M.c_r9, M.c_q10, M.c_r11, M.c_r12, M.c_r13, M.c_r14, M.c_r15, M.c_r16, M.c_r17, M.c_r18, M.c_r19, M.c_r20, M.c_r21, M.c_r22, M.c_r23, M.c_r24, M.c_q25, M.c_q26⟩
set_option maxHeartbeats 2000000 in
theorem fR_reached_17_eq (h : pRf e) (M : Mod t s) (w : Wf s) (K : zV → Nat → Nat → Int32 → Int32 → Option zR) (x3 : Int32) : ∀ (d c : Nat) (a : Int32) (F : Nat → Bool) (f : Nat), c + d = s_C s → d < f → rep a F → ∃ a', fR_reached_17 K f (pv e t) n (pL e 6 0 0) a x3 (nI c) = K (pv e t) n (pL e 6 0 0) a' (x3 + 1) ∧ rep a' ((List.range' c d).foldl (rC s) F) := by
  have hN1 := w.N1; have hN8 := w.N8; have hC := w.C; have hM := w.M; have hA := w.ackn
  intro d
  induction d with
  | zero =>
    intro c a F f hc hf hr
    obtain ⟨f, rfl⟩ : ∃ g, f = g + 1 := ⟨f - 1, by omega⟩
    have q : s_C s ≤ c := by omega
    refine ⟨a, ?_, hr⟩
    unfold fR_reached_17
    simp (disch := first | assumption | omega | exact b2i_01 _ | exact Or.inl rfl | exact Or.inr rfl) only [rf_0 h, rf_1 h, rf_2 h, rf_3 h, rf_4 h, rf_5 h, rf_6 h, rf_7 h, rf_8 h, rf_9 h, rf_10 h, rf_11 h, rf_12 h, rf_13 h, rf_14 h, rf_15 h, rf_16 h, rf_17 h, rf_18 h, rf_19 h, rf_20 h, rf_21 h, rf_22 h, rf_23 h, rf_24 h, rf_25 h, rf_26 h, rf_27 h, rf_28 h, rf_29 h, rf_30 h, rf_31 h, rf_32 h, rf_33 h, rp_1 h, rp_2 h, rp_7 h, rp_19 h, rp_29 h, rg_1 h, rg_2 h, rg_3 h, rg_4 h, rg_5 h, rg_6 h, rg_7 h, rg_8 h, rg_9 h, rg_10 h, rg_11 h, rg_12 h, rg_13 h, rg_14 h, rg_15 h, rg_16 h, rg_17 h, rg_18 h, rg_19 h, rg_20 h, rg_21 h, rg_22 h, rg_23 h, rg_24 h, rg_25 h, rg_26 h, rg_27 h, rg_28 h, rs_1 h, rs_2 h, rs_3 h, rs_4 h, rs_5 h, rs_6 h, rs_7 h, rs_8 h, rs_9 h, rs_10 h, rs_11 h, rs_12 h, rs_13 h, rs_14 h, rs_15 h, rs_16 h, rs_17 h, rs_18 h, rs_19 h, rs_20 h, rs_21 h, rs_22 h, rs_23 h, rs_24 h, rs_25 h, rs_26 h, rs_27 h, rs_28 h, ro h, rI_uI, rI_uJ, rI_uR, rI_wI, rI_wJ, rJ_uJ, rJ_uI, rJ_uR, rJ_wI, rJ_wJ, rR_uR, rR_uI, rR_uJ, rR_wI, rR_wJ, qI_wI, qI_wJ, qI_uI, qI_uJ, qI_uR, qJ_wJ, qJ_wI, qJ_uI, qJ_uJ, qJ_uR, Option.bind_some, zcV_s, zcI_s, zcL_s, zrI, zrV, zrL, nI_mul8, nI_mul16, nI_mul200, nI_1, eq_self, Nat.reduceEqDiff, and_true, true_and, and_false, false_and, and_self, ite_true, ite_false, ↓reduceIte, Nat.add_zero, if_true, if_false, b2i_t, b2i_f, o2i_s, o2i_n, M.c_f0, M.c_f2, M.c_f7, M.c_f19, M.c_f29, M.r1, M.r2, M.r3, M.r4, M.r5, M.r6, M.r9, M.r11, M.r12, M.r13, M.r14, M.r15, M.r16, M.r17, M.r18, M.r19, M.r20, M.r21, M.r22, M.r23, M.r24, nI_leI, nI_ltI, nI_eq, nI_eq0, nI_eqm1, b2i_eq0, q]
  | succ d ih =>
    intro c a F f hc hf hr
    obtain ⟨f, rfl⟩ : ∃ g, f = g + 1 := ⟨f - 1, by omega⟩
    have q : ¬ s_C s ≤ c := by omega
    have hto := w.to (c := c) (by omega)
    have ih2 := fun a F => ih (c + 1) a F f (by omega) (by omega)
    clear ih
    rw [List.range'_succ, List.foldl_cons]
    unfold fR_reached_17 fR_reached_64
    generalize fR_reached_17 K f = R at ih2 ⊢
    cases hf2 : s_fr s c with
    | none =>
      have e1 : rC s F c = F := by unfold rC; rw [hf2]
      rw [e1]
      simp (disch := first | assumption | omega | exact b2i_01 _ | exact Or.inl rfl | exact Or.inr rfl) only [rf_0 h, rf_1 h, rf_2 h, rf_3 h, rf_4 h, rf_5 h, rf_6 h, rf_7 h, rf_8 h, rf_9 h, rf_10 h, rf_11 h, rf_12 h, rf_13 h, rf_14 h, rf_15 h, rf_16 h, rf_17 h, rf_18 h, rf_19 h, rf_20 h, rf_21 h, rf_22 h, rf_23 h, rf_24 h, rf_25 h, rf_26 h, rf_27 h, rf_28 h, rf_29 h, rf_30 h, rf_31 h, rf_32 h, rf_33 h, rp_1 h, rp_2 h, rp_7 h, rp_19 h, rp_29 h, rg_1 h, rg_2 h, rg_3 h, rg_4 h, rg_5 h, rg_6 h, rg_7 h, rg_8 h, rg_9 h, rg_10 h, rg_11 h, rg_12 h, rg_13 h, rg_14 h, rg_15 h, rg_16 h, rg_17 h, rg_18 h, rg_19 h, rg_20 h, rg_21 h, rg_22 h, rg_23 h, rg_24 h, rg_25 h, rg_26 h, rg_27 h, rg_28 h, rs_1 h, rs_2 h, rs_3 h, rs_4 h, rs_5 h, rs_6 h, rs_7 h, rs_8 h, rs_9 h, rs_10 h, rs_11 h, rs_12 h, rs_13 h, rs_14 h, rs_15 h, rs_16 h, rs_17 h, rs_18 h, rs_19 h, rs_20 h, rs_21 h, rs_22 h, rs_23 h, rs_24 h, rs_25 h, rs_26 h, rs_27 h, rs_28 h, ro h, rI_uI, rI_uJ, rI_uR, rI_wI, rI_wJ, rJ_uJ, rJ_uI, rJ_uR, rJ_wI, rJ_wJ, rR_uR, rR_uI, rR_uJ, rR_wI, rR_wJ, qI_wI, qI_wJ, qI_uI, qI_uJ, qI_uR, qJ_wJ, qJ_wI, qJ_uI, qJ_uJ, qJ_uR, Option.bind_some, zcV_s, zcI_s, zcL_s, zrI, zrV, zrL, nI_mul8, nI_mul16, nI_mul200, nI_1, eq_self, Nat.reduceEqDiff, and_true, true_and, and_false, false_and, and_self, ite_true, ite_false, ↓reduceIte, Nat.add_zero, if_true, if_false, b2i_t, b2i_f, o2i_s, o2i_n, M.c_f0, M.c_f2, M.c_f7, M.c_f19, M.c_f29, M.r1, M.r2, M.r3, M.r4, M.r5, M.r6, M.r9, M.r11, M.r12, M.r13, M.r14, M.r15, M.r16, M.r17, M.r18, M.r19, M.r20, M.r21, M.r22, M.r23, M.r24, nI_leI, nI_ltI, nI_eq, nI_eq0, nI_eqm1, b2i_eq0, q, hf2]
      exact ih2 a F hr
    | some k =>
      have hk := w.fr (c := c) (by omega) hf2
      have hk8 : k < 8 := by omega
      have e1 : rC s F c = if F k = true then fu F (s_to s c) true else F := by unfold rC; rw [hf2]
      rw [e1]
      simp (disch := first | assumption | omega | exact b2i_01 _ | exact Or.inl rfl | exact Or.inr rfl) only [rf_0 h, rf_1 h, rf_2 h, rf_3 h, rf_4 h, rf_5 h, rf_6 h, rf_7 h, rf_8 h, rf_9 h, rf_10 h, rf_11 h, rf_12 h, rf_13 h, rf_14 h, rf_15 h, rf_16 h, rf_17 h, rf_18 h, rf_19 h, rf_20 h, rf_21 h, rf_22 h, rf_23 h, rf_24 h, rf_25 h, rf_26 h, rf_27 h, rf_28 h, rf_29 h, rf_30 h, rf_31 h, rf_32 h, rf_33 h, rp_1 h, rp_2 h, rp_7 h, rp_19 h, rp_29 h, rg_1 h, rg_2 h, rg_3 h, rg_4 h, rg_5 h, rg_6 h, rg_7 h, rg_8 h, rg_9 h, rg_10 h, rg_11 h, rg_12 h, rg_13 h, rg_14 h, rg_15 h, rg_16 h, rg_17 h, rg_18 h, rg_19 h, rg_20 h, rg_21 h, rg_22 h, rg_23 h, rg_24 h, rg_25 h, rg_26 h, rg_27 h, rg_28 h, rs_1 h, rs_2 h, rs_3 h, rs_4 h, rs_5 h, rs_6 h, rs_7 h, rs_8 h, rs_9 h, rs_10 h, rs_11 h, rs_12 h, rs_13 h, rs_14 h, rs_15 h, rs_16 h, rs_17 h, rs_18 h, rs_19 h, rs_20 h, rs_21 h, rs_22 h, rs_23 h, rs_24 h, rs_25 h, rs_26 h, rs_27 h, rs_28 h, ro h, rI_uI, rI_uJ, rI_uR, rI_wI, rI_wJ, rJ_uJ, rJ_uI, rJ_uR, rJ_wI, rJ_wJ, rR_uR, rR_uI, rR_uJ, rR_wI, rR_wJ, qI_wI, qI_wJ, qI_uI, qI_uJ, qI_uR, qJ_wJ, qJ_wI, qJ_uI, qJ_uJ, qJ_uR, Option.bind_some, zcV_s, zcI_s, zcL_s, zrI, zrV, zrL, nI_mul8, nI_mul16, nI_mul200, nI_1, eq_self, Nat.reduceEqDiff, and_true, true_and, and_false, false_and, and_self, ite_true, ite_false, ↓reduceIte, Nat.add_zero, if_true, if_false, b2i_t, b2i_f, o2i_s, o2i_n, M.c_f0, M.c_f2, M.c_f7, M.c_f19, M.c_f29, M.r1, M.r2, M.r3, M.r4, M.r5, M.r6, M.r9, M.r11, M.r12, M.r13, M.r14, M.r15, M.r16, M.r17, M.r18, M.r19, M.r20, M.r21, M.r22, M.r23, M.r24, nI_leI, nI_ltI, nI_eq, nI_eq0, nI_eqm1, b2i_eq0, q, hf2, bit_sh1 a hk8, hr k hk8]
      by_cases hq : F k = true
      · rw [if_pos hq, if_pos hq]
        exact ih2 _ _ (rep_or hr (by omega))
      · rw [if_neg hq, if_neg hq]
        exact ih2 a F hr
set_option maxHeartbeats 2000000 in
theorem fR_reached_6_eq (h : pRf e) (M : Mod t s) (w : Wf s) : ∀ (d c : Nat) (a : Int32) (F : Nat → Bool) (f : Nat), c + d = s_N s → d < f → rep a F → ∃ a', fR_reached_6 f (pv e t) n (pL e 6 0 0) a (nI c) = some (.inl (some (.int a')), pv e t, n) ∧ rep a' (rIt s d F) := by
  have hN1 := w.N1; have hN8 := w.N8; have hC := w.C; have hM := w.M; have hA := w.ackn
  intro d
  induction d with
  | zero =>
    intro c a F f hc hf hr
    obtain ⟨f, rfl⟩ : ∃ g, f = g + 1 := ⟨f - 1, by omega⟩
    have q : s_N s ≤ c := by omega
    refine ⟨a, ?_, hr⟩
    unfold fR_reached_6
    generalize fR_reached_17 (fR_reached_6 f) zF = R
    simp (disch := first | assumption | omega | exact b2i_01 _ | exact Or.inl rfl | exact Or.inr rfl) only [rf_0 h, rf_1 h, rf_2 h, rf_3 h, rf_4 h, rf_5 h, rf_6 h, rf_7 h, rf_8 h, rf_9 h, rf_10 h, rf_11 h, rf_12 h, rf_13 h, rf_14 h, rf_15 h, rf_16 h, rf_17 h, rf_18 h, rf_19 h, rf_20 h, rf_21 h, rf_22 h, rf_23 h, rf_24 h, rf_25 h, rf_26 h, rf_27 h, rf_28 h, rf_29 h, rf_30 h, rf_31 h, rf_32 h, rf_33 h, rp_1 h, rp_2 h, rp_7 h, rp_19 h, rp_29 h, rg_1 h, rg_2 h, rg_3 h, rg_4 h, rg_5 h, rg_6 h, rg_7 h, rg_8 h, rg_9 h, rg_10 h, rg_11 h, rg_12 h, rg_13 h, rg_14 h, rg_15 h, rg_16 h, rg_17 h, rg_18 h, rg_19 h, rg_20 h, rg_21 h, rg_22 h, rg_23 h, rg_24 h, rg_25 h, rg_26 h, rg_27 h, rg_28 h, rs_1 h, rs_2 h, rs_3 h, rs_4 h, rs_5 h, rs_6 h, rs_7 h, rs_8 h, rs_9 h, rs_10 h, rs_11 h, rs_12 h, rs_13 h, rs_14 h, rs_15 h, rs_16 h, rs_17 h, rs_18 h, rs_19 h, rs_20 h, rs_21 h, rs_22 h, rs_23 h, rs_24 h, rs_25 h, rs_26 h, rs_27 h, rs_28 h, ro h, rI_uI, rI_uJ, rI_uR, rI_wI, rI_wJ, rJ_uJ, rJ_uI, rJ_uR, rJ_wI, rJ_wJ, rR_uR, rR_uI, rR_uJ, rR_wI, rR_wJ, qI_wI, qI_wJ, qI_uI, qI_uJ, qI_uR, qJ_wJ, qJ_wI, qJ_uI, qJ_uJ, qJ_uR, Option.bind_some, zcV_s, zcI_s, zcL_s, zrI, zrV, zrL, nI_mul8, nI_mul16, nI_mul200, nI_1, eq_self, Nat.reduceEqDiff, and_true, true_and, and_false, false_and, and_self, ite_true, ite_false, ↓reduceIte, Nat.add_zero, if_true, if_false, b2i_t, b2i_f, o2i_s, o2i_n, M.c_f0, M.c_f2, M.c_f7, M.c_f19, M.c_f29, M.r1, M.r2, M.r3, M.r4, M.r5, M.r6, M.r9, M.r11, M.r12, M.r13, M.r14, M.r15, M.r16, M.r17, M.r18, M.r19, M.r20, M.r21, M.r22, M.r23, M.r24, nI_leI, nI_ltI, nI_eq, nI_eq0, nI_eqm1, b2i_eq0, q]
  | succ d ih =>
    intro c a F f hc hf hr
    obtain ⟨f, rfl⟩ : ∃ g, f = g + 1 := ⟨f - 1, by omega⟩
    have q : ¬ s_N s ≤ c := by omega
    obtain ⟨a1, h1, r1⟩ := fR_reached_17_eq (n := n) h M w (fR_reached_6 f) (nI c) (s_C s) 0 a F zF (Nat.zero_add _) (zF_big (by omega)) hr
    obtain ⟨a2, h2, r2⟩ := ih (c + 1) a1 _ f (by omega) (by omega) r1
    refine ⟨a2, ?_, r2⟩
    rw [← h2, ← nI_1]
    refine Eq.trans ?_ h1
    generalize hR : fR_reached_17 (fR_reached_6 f) zF = R
    unfold fR_reached_6
    rw [hR]
    simp (disch := first | assumption | omega | exact b2i_01 _ | exact Or.inl rfl | exact Or.inr rfl) only [rf_0 h, rf_1 h, rf_2 h, rf_3 h, rf_4 h, rf_5 h, rf_6 h, rf_7 h, rf_8 h, rf_9 h, rf_10 h, rf_11 h, rf_12 h, rf_13 h, rf_14 h, rf_15 h, rf_16 h, rf_17 h, rf_18 h, rf_19 h, rf_20 h, rf_21 h, rf_22 h, rf_23 h, rf_24 h, rf_25 h, rf_26 h, rf_27 h, rf_28 h, rf_29 h, rf_30 h, rf_31 h, rf_32 h, rf_33 h, rp_1 h, rp_2 h, rp_7 h, rp_19 h, rp_29 h, rg_1 h, rg_2 h, rg_3 h, rg_4 h, rg_5 h, rg_6 h, rg_7 h, rg_8 h, rg_9 h, rg_10 h, rg_11 h, rg_12 h, rg_13 h, rg_14 h, rg_15 h, rg_16 h, rg_17 h, rg_18 h, rg_19 h, rg_20 h, rg_21 h, rg_22 h, rg_23 h, rg_24 h, rg_25 h, rg_26 h, rg_27 h, rg_28 h, rs_1 h, rs_2 h, rs_3 h, rs_4 h, rs_5 h, rs_6 h, rs_7 h, rs_8 h, rs_9 h, rs_10 h, rs_11 h, rs_12 h, rs_13 h, rs_14 h, rs_15 h, rs_16 h, rs_17 h, rs_18 h, rs_19 h, rs_20 h, rs_21 h, rs_22 h, rs_23 h, rs_24 h, rs_25 h, rs_26 h, rs_27 h, rs_28 h, ro h, rI_uI, rI_uJ, rI_uR, rI_wI, rI_wJ, rJ_uJ, rJ_uI, rJ_uR, rJ_wI, rJ_wJ, rR_uR, rR_uI, rR_uJ, rR_wI, rR_wJ, qI_wI, qI_wJ, qI_uI, qI_uJ, qI_uR, qJ_wJ, qJ_wI, qJ_uI, qJ_uJ, qJ_uR, Option.bind_some, zcV_s, zcI_s, zcL_s, zrI, zrV, zrL, nI_mul8, nI_mul16, nI_mul200, nI_1, eq_self, Nat.reduceEqDiff, and_true, true_and, and_false, false_and, and_self, ite_true, ite_false, ↓reduceIte, Nat.add_zero, if_true, if_false, b2i_t, b2i_f, o2i_s, o2i_n, M.c_f0, M.c_f2, M.c_f7, M.c_f19, M.c_f29, M.r1, M.r2, M.r3, M.r4, M.r5, M.r6, M.r9, M.r11, M.r12, M.r13, M.r14, M.r15, M.r16, M.r17, M.r18, M.r19, M.r20, M.r21, M.r22, M.r23, M.r24, nI_leI, nI_ltI, nI_eq, nI_eq0, nI_eqm1, b2i_eq0, q]
    rfl
theorem fR_reached_eq (h : pRf e) (M : Mod t s) (w : Wf s) {x : Nat} (hx : x < s_N s) : ∃ a, fR_reached (pv e t) n (pL e 6 0 0) (nI x) = some (.inl (some (.int a)), pv e t, n) ∧ rep a (reachS s x) := by
  have hN8 := w.N8
  unfold fR_reached
  exact fR_reached_6_eq (n := n) h M w (s_N s) 0 _ _ zF (Nat.zero_add _) (zF_big (by omega)) (rep_one (by omega))
set_option maxHeartbeats 2000000 in
theorem fR_channel_k (h : pRf e) (M : Mod t s) (x y : Int32) {k : Int32} (hk : ¬ k ≤ 0) : RO (fR_channel_77 (pv e t) n (pL e 6 0 0) x y (some (pL e 6 0 0)) k) e t n (some (.int 0)) s k := by
  unfold fR_channel_77
  simp (disch := first | assumption | omega | exact b2i_01 _ | exact Or.inl rfl | exact Or.inr rfl) only [rf_0 h, rf_1 h, rf_2 h, rf_3 h, rf_4 h, rf_5 h, rf_6 h, rf_7 h, rf_8 h, rf_9 h, rf_10 h, rf_11 h, rf_12 h, rf_13 h, rf_14 h, rf_15 h, rf_16 h, rf_17 h, rf_18 h, rf_19 h, rf_20 h, rf_21 h, rf_22 h, rf_23 h, rf_24 h, rf_25 h, rf_26 h, rf_27 h, rf_28 h, rf_29 h, rf_30 h, rf_31 h, rf_32 h, rf_33 h, rp_1 h, rp_2 h, rp_7 h, rp_19 h, rp_29 h, rg_1 h, rg_2 h, rg_3 h, rg_4 h, rg_5 h, rg_6 h, rg_7 h, rg_8 h, rg_9 h, rg_10 h, rg_11 h, rg_12 h, rg_13 h, rg_14 h, rg_15 h, rg_16 h, rg_17 h, rg_18 h, rg_19 h, rg_20 h, rg_21 h, rg_22 h, rg_23 h, rg_24 h, rg_25 h, rg_26 h, rg_27 h, rg_28 h, rs_1 h, rs_2 h, rs_3 h, rs_4 h, rs_5 h, rs_6 h, rs_7 h, rs_8 h, rs_9 h, rs_10 h, rs_11 h, rs_12 h, rs_13 h, rs_14 h, rs_15 h, rs_16 h, rs_17 h, rs_18 h, rs_19 h, rs_20 h, rs_21 h, rs_22 h, rs_23 h, rs_24 h, rs_25 h, rs_26 h, rs_27 h, rs_28 h, ro h, rI_uI, rI_uJ, rI_uR, rI_wI, rI_wJ, rJ_uJ, rJ_uI, rJ_uR, rJ_wI, rJ_wJ, rR_uR, rR_uI, rR_uJ, rR_wI, rR_wJ, qI_wI, qI_wJ, qI_uI, qI_uJ, qI_uR, qJ_wJ, qJ_wI, qJ_uI, qJ_uJ, qJ_uR, Option.bind_some, zcV_s, zcI_s, zcL_s, zrI, zrV, zrL, nI_mul8, nI_mul16, nI_mul200, nI_1, eq_self, Nat.reduceEqDiff, and_true, true_and, and_false, false_and, and_self, ite_true, ite_false, ↓reduceIte, Nat.add_zero, if_true, if_false, b2i_t, b2i_f, o2i_s, o2i_n, M.c_f0, M.c_f2, M.c_f7, M.c_f19, M.c_f29, M.r1, M.r2, M.r3, M.r4, M.r5, M.r6, M.r9, M.r11, M.r12, M.r13, M.r14, M.r15, M.r16, M.r17, M.r18, M.r19, M.r20, M.r21, M.r22, M.r23, M.r24, nI_leI, nI_ltI, nI_eq, nI_eq0, nI_eqm1, b2i_eq0, hk]
  exact ⟨_, rfl, M.v_code, Fr.wI p6 (Fr.refl _ _), rfl⟩
set_option maxHeartbeats 2000000 in
theorem fR_channel_b (h : pRf e) (M : Mod t s) (w : Wf s) {x y : Int32} (hb : (x < -1 ∨ nI (s_N s) ≤ x) ∨ bad y (s_N s)) : RO (fR_channel (pv e t) n (pL e 6 0 0) x y) e t n (some (.int 0)) s 1 := by
  have key := fR_channel_k (n := n) h M x y (k := 1) (by decide)
  unfold fR_channel fR_channel_22
  generalize fR_channel_77 = G at key ⊢
  generalize fR_channel_42 = G1
  generalize fR_channel_72 = G2
  generalize fR_channel_76 = G3
  by_cases q1 : x < -1
  · rw [if_pos q1]; exact key
  · rw [if_neg q1]
    simp (disch := first | assumption | omega | exact b2i_01 _ | exact Or.inl rfl | exact Or.inr rfl) only [rf_0 h, rf_1 h, rf_2 h, rf_3 h, rf_4 h, rf_5 h, rf_6 h, rf_7 h, rf_8 h, rf_9 h, rf_10 h, rf_11 h, rf_12 h, rf_13 h, rf_14 h, rf_15 h, rf_16 h, rf_17 h, rf_18 h, rf_19 h, rf_20 h, rf_21 h, rf_22 h, rf_23 h, rf_24 h, rf_25 h, rf_26 h, rf_27 h, rf_28 h, rf_29 h, rf_30 h, rf_31 h, rf_32 h, rf_33 h, rp_1 h, rp_2 h, rp_7 h, rp_19 h, rp_29 h, rg_1 h, rg_2 h, rg_3 h, rg_4 h, rg_5 h, rg_6 h, rg_7 h, rg_8 h, rg_9 h, rg_10 h, rg_11 h, rg_12 h, rg_13 h, rg_14 h, rg_15 h, rg_16 h, rg_17 h, rg_18 h, rg_19 h, rg_20 h, rg_21 h, rg_22 h, rg_23 h, rg_24 h, rg_25 h, rg_26 h, rg_27 h, rg_28 h, rs_1 h, rs_2 h, rs_3 h, rs_4 h, rs_5 h, rs_6 h, rs_7 h, rs_8 h, rs_9 h, rs_10 h, rs_11 h, rs_12 h, rs_13 h, rs_14 h, rs_15 h, rs_16 h, rs_17 h, rs_18 h, rs_19 h, rs_20 h, rs_21 h, rs_22 h, rs_23 h, rs_24 h, rs_25 h, rs_26 h, rs_27 h, rs_28 h, ro h, rI_uI, rI_uJ, rI_uR, rI_wI, rI_wJ, rJ_uJ, rJ_uI, rJ_uR, rJ_wI, rJ_wJ, rR_uR, rR_uI, rR_uJ, rR_wI, rR_wJ, qI_wI, qI_wJ, qI_uI, qI_uJ, qI_uR, qJ_wJ, qJ_wI, qJ_uI, qJ_uJ, qJ_uR, Option.bind_some, zcV_s, zcI_s, zcL_s, zrI, zrV, zrL, nI_mul8, nI_mul16, nI_mul200, nI_1, eq_self, Nat.reduceEqDiff, and_true, true_and, and_false, false_and, and_self, ite_true, ite_false, ↓reduceIte, Nat.add_zero, if_true, if_false, b2i_t, b2i_f, o2i_s, o2i_n, M.c_f0, M.c_f2, M.c_f7, M.c_f19, M.c_f29, M.r1, M.r2, M.r3, M.r4, M.r5, M.r6, M.r9, M.r11, M.r12, M.r13, M.r14, M.r15, M.r16, M.r17, M.r18, M.r19, M.r20, M.r21, M.r22, M.r23, M.r24, nI_leI, nI_ltI, nI_eq, nI_eq0, nI_eqm1, b2i_eq0]
    by_cases q2 : nI (s_N s) ≤ x
    · rw [if_pos q2]; exact key
    · rw [if_neg q2]
      have hy : bad y (s_N s) := by
        rcases hb with (hb | hb) | hb
        · exact absurd hb q1
        · exact absurd hb q2
        · exact hb
      simp (disch := first | assumption | omega | exact b2i_01 _ | exact Or.inl rfl | exact Or.inr rfl) only [rf_0 h, rf_1 h, rf_2 h, rf_3 h, rf_4 h, rf_5 h, rf_6 h, rf_7 h, rf_8 h, rf_9 h, rf_10 h, rf_11 h, rf_12 h, rf_13 h, rf_14 h, rf_15 h, rf_16 h, rf_17 h, rf_18 h, rf_19 h, rf_20 h, rf_21 h, rf_22 h, rf_23 h, rf_24 h, rf_25 h, rf_26 h, rf_27 h, rf_28 h, rf_29 h, rf_30 h, rf_31 h, rf_32 h, rf_33 h, rp_1 h, rp_2 h, rp_7 h, rp_19 h, rp_29 h, rg_1 h, rg_2 h, rg_3 h, rg_4 h, rg_5 h, rg_6 h, rg_7 h, rg_8 h, rg_9 h, rg_10 h, rg_11 h, rg_12 h, rg_13 h, rg_14 h, rg_15 h, rg_16 h, rg_17 h, rg_18 h, rg_19 h, rg_20 h, rg_21 h, rg_22 h, rg_23 h, rg_24 h, rg_25 h, rg_26 h, rg_27 h, rg_28 h, rs_1 h, rs_2 h, rs_3 h, rs_4 h, rs_5 h, rs_6 h, rs_7 h, rs_8 h, rs_9 h, rs_10 h, rs_11 h, rs_12 h, rs_13 h, rs_14 h, rs_15 h, rs_16 h, rs_17 h, rs_18 h, rs_19 h, rs_20 h, rs_21 h, rs_22 h, rs_23 h, rs_24 h, rs_25 h, rs_26 h, rs_27 h, rs_28 h, ro h, rI_uI, rI_uJ, rI_uR, rI_wI, rI_wJ, rJ_uJ, rJ_uI, rJ_uR, rJ_wI, rJ_wJ, rR_uR, rR_uI, rR_uJ, rR_wI, rR_wJ, qI_wI, qI_wJ, qI_uI, qI_uJ, qI_uR, qJ_wJ, qJ_wI, qJ_uI, qJ_uJ, qJ_uR, Option.bind_some, zcV_s, zcI_s, zcL_s, zrI, zrV, zrL, nI_mul8, nI_mul16, nI_mul200, nI_1, eq_self, Nat.reduceEqDiff, and_true, true_and, and_false, false_and, and_self, ite_true, ite_false, ↓reduceIte, Nat.add_zero, if_true, if_false, b2i_t, b2i_f, o2i_s, o2i_n, nI_leI, nI_ltI, nI_eq, nI_eq0, nI_eqm1, b2i_eq0, fR_isTask_b h M hy]
      exact key
set_option maxHeartbeats 2000000 in
theorem fR_channel_n2 (h : pRf e) (M : Mod t s) (w : Wf s) {x : Int32} {y : Nat} (h1 : ¬ x < -1) (h2 : ¬ nI (s_N s) ≤ x) (hy : y < s_N s) (hb : s_C s = 16 ∨ s_tol s = true) : RO (fR_channel (pv e t) n (pL e 6 0 0) x (nI y)) e t n (some (.int 0)) s 2 := by
  have hN1 := w.N1; have hN8 := w.N8; have hC := w.C; have hM := w.M; have hA := w.ackn
  have key := fR_channel_k (n := n) h M x (nI y) (k := 2) (by decide)
  unfold fR_channel fR_channel_42
  generalize fR_channel_77 = G at key ⊢
  generalize fR_channel_22 = G1
  generalize fR_channel_72 = G2
  generalize fR_channel_76 = G3
  generalize fR_reached = G4
  generalize fR_hasInto = G5
  rw [if_neg h1]
  simp (disch := first | assumption | omega | exact b2i_01 _ | exact Or.inl rfl | exact Or.inr rfl) only [rf_0 h, rf_1 h, rf_2 h, rf_3 h, rf_4 h, rf_5 h, rf_6 h, rf_7 h, rf_8 h, rf_9 h, rf_10 h, rf_11 h, rf_12 h, rf_13 h, rf_14 h, rf_15 h, rf_16 h, rf_17 h, rf_18 h, rf_19 h, rf_20 h, rf_21 h, rf_22 h, rf_23 h, rf_24 h, rf_25 h, rf_26 h, rf_27 h, rf_28 h, rf_29 h, rf_30 h, rf_31 h, rf_32 h, rf_33 h, rp_1 h, rp_2 h, rp_7 h, rp_19 h, rp_29 h, rg_1 h, rg_2 h, rg_3 h, rg_4 h, rg_5 h, rg_6 h, rg_7 h, rg_8 h, rg_9 h, rg_10 h, rg_11 h, rg_12 h, rg_13 h, rg_14 h, rg_15 h, rg_16 h, rg_17 h, rg_18 h, rg_19 h, rg_20 h, rg_21 h, rg_22 h, rg_23 h, rg_24 h, rg_25 h, rg_26 h, rg_27 h, rg_28 h, rs_1 h, rs_2 h, rs_3 h, rs_4 h, rs_5 h, rs_6 h, rs_7 h, rs_8 h, rs_9 h, rs_10 h, rs_11 h, rs_12 h, rs_13 h, rs_14 h, rs_15 h, rs_16 h, rs_17 h, rs_18 h, rs_19 h, rs_20 h, rs_21 h, rs_22 h, rs_23 h, rs_24 h, rs_25 h, rs_26 h, rs_27 h, rs_28 h, ro h, rI_uI, rI_uJ, rI_uR, rI_wI, rI_wJ, rJ_uJ, rJ_uI, rJ_uR, rJ_wI, rJ_wJ, rR_uR, rR_uI, rR_uJ, rR_wI, rR_wJ, qI_wI, qI_wJ, qI_uI, qI_uJ, qI_uR, qJ_wJ, qJ_wI, qJ_uI, qJ_uJ, qJ_uR, Option.bind_some, zcV_s, zcI_s, zcL_s, zrI, zrV, zrL, nI_mul8, nI_mul16, nI_mul200, nI_1, eq_self, Nat.reduceEqDiff, and_true, true_and, and_false, false_and, and_self, ite_true, ite_false, ↓reduceIte, Nat.add_zero, if_true, if_false, b2i_t, b2i_f, o2i_s, o2i_n, M.c_f0, M.c_f2, M.c_f7, M.c_f19, M.c_f29, M.r1, M.r2, M.r3, M.r4, M.r5, M.r6, M.r9, M.r11, M.r12, M.r13, M.r14, M.r15, M.r16, M.r17, M.r18, M.r19, M.r20, M.r21, M.r22, M.r23, M.r24, nI_leI, nI_ltI, nI_eq, nI_eq0, nI_eqm1, b2i_eq0, h2, fR_isTask_g h M w hy, i10, show (16 : Int32) = nI 16 from rfl]
  by_cases q : s_C s = 16
  · rw [if_pos q]; exact key
  · rw [if_neg q]
    have : s_tol s = true := by
      rcases hb with hb | hb
      · exact absurd hb q
      · exact hb
    rw [this, if_neg (by decide)]
    exact key
set_option maxHeartbeats 2000000 in
theorem fR_channel_n3 (h : pRf e) (M : Mod t s) (w : Wf s) {x y : Nat} (hx : x < s_N s) (hy : y < s_N s) (h1 : s_C s ≠ 16) (h2 : s_tol s = false) (hb : reachS s y x = true ∨ hasIn s x = false) : RO (fR_channel (pv e t) n (pL e 6 0 0) (nI x) (nI y)) e t n (some (.int 0)) s 3 := by
  have hN1 := w.N1; have hN8 := w.N8; have hC := w.C; have hM := w.M; have hA := w.ackn
  have key := fR_channel_k (n := n) h M (nI x) (nI y) (k := 3) (by decide)
  have q1 : ¬ nI x < -1 := fun z => nI_nn (j := x) (by omega) (Int32.lt_trans z (by decide))
  have q2 : ¬ s_N s ≤ x := by omega
  obtain ⟨a, ha, hr⟩ := fR_reached_eq (n := n) h M w hy
  unfold fR_channel fR_channel_72
  generalize fR_channel_77 = G at key ⊢
  generalize fR_channel_22 = G1
  generalize fR_channel_42 = G2
  generalize fR_channel_76 = G3
  rw [if_neg q1]
  simp (disch := first | assumption | omega | exact b2i_01 _ | exact Or.inl rfl | exact Or.inr rfl) only [rf_0 h, rf_1 h, rf_2 h, rf_3 h, rf_4 h, rf_5 h, rf_6 h, rf_7 h, rf_8 h, rf_9 h, rf_10 h, rf_11 h, rf_12 h, rf_13 h, rf_14 h, rf_15 h, rf_16 h, rf_17 h, rf_18 h, rf_19 h, rf_20 h, rf_21 h, rf_22 h, rf_23 h, rf_24 h, rf_25 h, rf_26 h, rf_27 h, rf_28 h, rf_29 h, rf_30 h, rf_31 h, rf_32 h, rf_33 h, rp_1 h, rp_2 h, rp_7 h, rp_19 h, rp_29 h, rg_1 h, rg_2 h, rg_3 h, rg_4 h, rg_5 h, rg_6 h, rg_7 h, rg_8 h, rg_9 h, rg_10 h, rg_11 h, rg_12 h, rg_13 h, rg_14 h, rg_15 h, rg_16 h, rg_17 h, rg_18 h, rg_19 h, rg_20 h, rg_21 h, rg_22 h, rg_23 h, rg_24 h, rg_25 h, rg_26 h, rg_27 h, rg_28 h, rs_1 h, rs_2 h, rs_3 h, rs_4 h, rs_5 h, rs_6 h, rs_7 h, rs_8 h, rs_9 h, rs_10 h, rs_11 h, rs_12 h, rs_13 h, rs_14 h, rs_15 h, rs_16 h, rs_17 h, rs_18 h, rs_19 h, rs_20 h, rs_21 h, rs_22 h, rs_23 h, rs_24 h, rs_25 h, rs_26 h, rs_27 h, rs_28 h, ro h, rI_uI, rI_uJ, rI_uR, rI_wI, rI_wJ, rJ_uJ, rJ_uI, rJ_uR, rJ_wI, rJ_wJ, rR_uR, rR_uI, rR_uJ, rR_wI, rR_wJ, qI_wI, qI_wJ, qI_uI, qI_uJ, qI_uR, qJ_wJ, qJ_wI, qJ_uI, qJ_uJ, qJ_uR, Option.bind_some, zcV_s, zcI_s, zcL_s, zrI, zrV, zrL, nI_mul8, nI_mul16, nI_mul200, nI_1, eq_self, Nat.reduceEqDiff, and_true, true_and, and_false, false_and, and_self, ite_true, ite_false, ↓reduceIte, Nat.add_zero, if_true, if_false, b2i_t, b2i_f, o2i_s, o2i_n, M.c_f0, M.c_f2, M.c_f7, M.c_f19, M.c_f29, M.r1, M.r2, M.r3, M.r4, M.r5, M.r6, M.r9, M.r11, M.r12, M.r13, M.r14, M.r15, M.r16, M.r17, M.r18, M.r19, M.r20, M.r21, M.r22, M.r23, M.r24, nI_leI, nI_ltI, nI_eq, nI_eq0, nI_eqm1, b2i_eq0, q2, fR_isTask_g h M w hy, i10, show (16 : Int32) = nI 16 from rfl, h1, h2, ha, bit_sh1 a (show x < 8 by omega), hr x (show x < 8 by omega), fR_hasInto_eq h M w (show x < 8 by omega)]
  by_cases q : reachS s y x = true
  · rw [if_pos q]; exact key
  · rw [if_neg q]
    have : hasIn s x = false := by
      rcases hb with hb | hb
      · exact absurd hb q
      · exact hb
    rw [this, if_pos rfl]
    exact key
set_option maxHeartbeats 2000000 in
theorem fR_channel_76_eq (h : pRf e) (M : Mod t s) (w : Wf s) (k : Option Nat) {y : Nat} (hC : s_C s < 16) : RO (fR_channel_76 (pv e t) n (pL e 6 0 0) (o2i k) (nI y) (some (pL e 6 0 0))) e t n (some (.int (nI (s_C s)))) (channelS s k y) 0 := by
  have M2 := (M.v_code (v := 0)).v_chan (k := k) (b := y)
  unfold fR_channel_76 fR_channel_77
  simp (disch := first | assumption | omega | exact b2i_01 _ | exact Or.inl rfl | exact Or.inr rfl) only [rf_0 h, rf_1 h, rf_2 h, rf_3 h, rf_4 h, rf_5 h, rf_6 h, rf_7 h, rf_8 h, rf_9 h, rf_10 h, rf_11 h, rf_12 h, rf_13 h, rf_14 h, rf_15 h, rf_16 h, rf_17 h, rf_18 h, rf_19 h, rf_20 h, rf_21 h, rf_22 h, rf_23 h, rf_24 h, rf_25 h, rf_26 h, rf_27 h, rf_28 h, rf_29 h, rf_30 h, rf_31 h, rf_32 h, rf_33 h, rp_1 h, rp_2 h, rp_7 h, rp_19 h, rp_29 h, rg_1 h, rg_2 h, rg_3 h, rg_4 h, rg_5 h, rg_6 h, rg_7 h, rg_8 h, rg_9 h, rg_10 h, rg_11 h, rg_12 h, rg_13 h, rg_14 h, rg_15 h, rg_16 h, rg_17 h, rg_18 h, rg_19 h, rg_20 h, rg_21 h, rg_22 h, rg_23 h, rg_24 h, rg_25 h, rg_26 h, rg_27 h, rg_28 h, rs_1 h, rs_2 h, rs_3 h, rs_4 h, rs_5 h, rs_6 h, rs_7 h, rs_8 h, rs_9 h, rs_10 h, rs_11 h, rs_12 h, rs_13 h, rs_14 h, rs_15 h, rs_16 h, rs_17 h, rs_18 h, rs_19 h, rs_20 h, rs_21 h, rs_22 h, rs_23 h, rs_24 h, rs_25 h, rs_26 h, rs_27 h, rs_28 h, ro h, rI_uI, rI_uJ, rI_uR, rI_wI, rI_wJ, rJ_uJ, rJ_uI, rJ_uR, rJ_wI, rJ_wJ, rR_uR, rR_uI, rR_uJ, rR_wI, rR_wJ, qI_wI, qI_wJ, qI_uI, qI_uJ, qI_uR, qJ_wJ, qJ_wI, qJ_uI, qJ_uJ, qJ_uR, Option.bind_some, zcV_s, zcI_s, zcL_s, zrI, zrV, zrL, nI_mul8, nI_mul16, nI_mul200, nI_1, eq_self, Nat.reduceEqDiff, and_true, true_and, and_false, false_and, and_self, ite_true, ite_false, ↓reduceIte, Nat.add_zero, if_true, if_false, b2i_t, b2i_f, o2i_s, o2i_n, M.c_f0, M.c_f2, M.c_f7, M.c_f19, M.c_f29, M.r1, M.r2, M.r3, M.r4, M.r5, M.r6, M.r9, M.r11, M.r12, M.r13, M.r14, M.r15, M.r16, M.r17, M.r18, M.r19, M.r20, M.r21, M.r22, M.r23, M.r24, nI_leI, nI_ltI, nI_eq, nI_eq0, nI_eqm1, b2i_eq0, le00, upd_fu]
  refine ⟨_, ?_, M2, Fr.wI p6 (Fr.uI p6 (Fr.uI p6 (Fr.wI p6 (Fr.refl _ _)))), rfl⟩
  rw [← nI_1, show nI (s_C s) + 1 - 1 = nI (s_C s) from by rw [Int32.add_sub_cancel]]
  rfl
set_option maxHeartbeats 2000000 in
theorem fR_channel_g1 (h : pRf e) (M : Mod t s) (w : Wf s) {y : Nat} (hy : y < s_N s) (h1 : s_C s ≠ 16) (h2 : s_tol s = false) : RO (fR_channel (pv e t) n (pL e 6 0 0) (-1) (nI y)) e t n (some (.int (nI (s_C s)))) (channelS s none y) 0 := by
  have hN1 := w.N1; have hN8 := w.N8; have hC := w.C; have hM := w.M; have hA := w.ackn
  have key := fR_channel_76_eq (n := n) h M w none (y := y) (by omega)
  have q2 : ¬ nI (s_N s) ≤ -1 := fun z => nI_nn (j := s_N s) (by omega) (Int32.lt_of_le_of_lt z (by decide))
  unfold fR_channel
  generalize fR_channel_76 = G at key ⊢
  generalize fR_channel_22 = G1
  generalize fR_channel_42 = G2
  generalize fR_channel_72 = G3
  generalize fR_reached = G4
  generalize fR_hasInto = G5
  rw [if_neg (by decide)]
  simp (disch := first | assumption | omega | exact b2i_01 _ | exact Or.inl rfl | exact Or.inr rfl) only [rf_0 h, rf_1 h, rf_2 h, rf_3 h, rf_4 h, rf_5 h, rf_6 h, rf_7 h, rf_8 h, rf_9 h, rf_10 h, rf_11 h, rf_12 h, rf_13 h, rf_14 h, rf_15 h, rf_16 h, rf_17 h, rf_18 h, rf_19 h, rf_20 h, rf_21 h, rf_22 h, rf_23 h, rf_24 h, rf_25 h, rf_26 h, rf_27 h, rf_28 h, rf_29 h, rf_30 h, rf_31 h, rf_32 h, rf_33 h, rp_1 h, rp_2 h, rp_7 h, rp_19 h, rp_29 h, rg_1 h, rg_2 h, rg_3 h, rg_4 h, rg_5 h, rg_6 h, rg_7 h, rg_8 h, rg_9 h, rg_10 h, rg_11 h, rg_12 h, rg_13 h, rg_14 h, rg_15 h, rg_16 h, rg_17 h, rg_18 h, rg_19 h, rg_20 h, rg_21 h, rg_22 h, rg_23 h, rg_24 h, rg_25 h, rg_26 h, rg_27 h, rg_28 h, rs_1 h, rs_2 h, rs_3 h, rs_4 h, rs_5 h, rs_6 h, rs_7 h, rs_8 h, rs_9 h, rs_10 h, rs_11 h, rs_12 h, rs_13 h, rs_14 h, rs_15 h, rs_16 h, rs_17 h, rs_18 h, rs_19 h, rs_20 h, rs_21 h, rs_22 h, rs_23 h, rs_24 h, rs_25 h, rs_26 h, rs_27 h, rs_28 h, ro h, rI_uI, rI_uJ, rI_uR, rI_wI, rI_wJ, rJ_uJ, rJ_uI, rJ_uR, rJ_wI, rJ_wJ, rR_uR, rR_uI, rR_uJ, rR_wI, rR_wJ, qI_wI, qI_wJ, qI_uI, qI_uJ, qI_uR, qJ_wJ, qJ_wI, qJ_uI, qJ_uJ, qJ_uR, Option.bind_some, zcV_s, zcI_s, zcL_s, zrI, zrV, zrL, nI_mul8, nI_mul16, nI_mul200, nI_1, eq_self, Nat.reduceEqDiff, and_true, true_and, and_false, false_and, and_self, ite_true, ite_false, ↓reduceIte, Nat.add_zero, if_true, if_false, b2i_t, b2i_f, o2i_s, o2i_n, M.c_f0, M.c_f2, M.c_f7, M.c_f19, M.c_f29, M.r1, M.r2, M.r3, M.r4, M.r5, M.r6, M.r9, M.r11, M.r12, M.r13, M.r14, M.r15, M.r16, M.r17, M.r18, M.r19, M.r20, M.r21, M.r22, M.r23, M.r24, nI_leI, nI_ltI, nI_eq, nI_eq0, nI_eqm1, b2i_eq0, q2, fR_isTask_g h M w hy, i10, show (16 : Int32) = nI 16 from rfl, h1, h2]
  exact key
set_option maxHeartbeats 2000000 in
theorem fR_channel_g2 (h : pRf e) (M : Mod t s) (w : Wf s) {x y : Nat} (hx : x < s_N s) (hy : y < s_N s) (h1 : s_C s ≠ 16) (h2 : s_tol s = false) (h3 : reachS s y x = false) (h4 : hasIn s x = true) : RO (fR_channel (pv e t) n (pL e 6 0 0) (nI x) (nI y)) e t n (some (.int (nI (s_C s)))) (channelS s (some x) y) 0 := by
  have hN1 := w.N1; have hN8 := w.N8; have hC := w.C; have hM := w.M; have hA := w.ackn
  have key := fR_channel_76_eq (n := n) h M w (some x) (y := y) (by omega)
  rw [o2i_s] at key
  have q1 : ¬ nI x < -1 := fun z => nI_nn (j := x) (by omega) (Int32.lt_trans z (by decide))
  have q2 : ¬ s_N s ≤ x := by omega
  obtain ⟨a, ha, hr⟩ := fR_reached_eq (n := n) h M w hy
  unfold fR_channel
  generalize fR_channel_76 = G at key ⊢
  generalize fR_channel_22 = G1
  generalize fR_channel_42 = G2
  generalize fR_channel_72 = G3
  rw [if_neg q1]
  simp (disch := first | assumption | omega | exact b2i_01 _ | exact Or.inl rfl | exact Or.inr rfl) only [rf_0 h, rf_1 h, rf_2 h, rf_3 h, rf_4 h, rf_5 h, rf_6 h, rf_7 h, rf_8 h, rf_9 h, rf_10 h, rf_11 h, rf_12 h, rf_13 h, rf_14 h, rf_15 h, rf_16 h, rf_17 h, rf_18 h, rf_19 h, rf_20 h, rf_21 h, rf_22 h, rf_23 h, rf_24 h, rf_25 h, rf_26 h, rf_27 h, rf_28 h, rf_29 h, rf_30 h, rf_31 h, rf_32 h, rf_33 h, rp_1 h, rp_2 h, rp_7 h, rp_19 h, rp_29 h, rg_1 h, rg_2 h, rg_3 h, rg_4 h, rg_5 h, rg_6 h, rg_7 h, rg_8 h, rg_9 h, rg_10 h, rg_11 h, rg_12 h, rg_13 h, rg_14 h, rg_15 h, rg_16 h, rg_17 h, rg_18 h, rg_19 h, rg_20 h, rg_21 h, rg_22 h, rg_23 h, rg_24 h, rg_25 h, rg_26 h, rg_27 h, rg_28 h, rs_1 h, rs_2 h, rs_3 h, rs_4 h, rs_5 h, rs_6 h, rs_7 h, rs_8 h, rs_9 h, rs_10 h, rs_11 h, rs_12 h, rs_13 h, rs_14 h, rs_15 h, rs_16 h, rs_17 h, rs_18 h, rs_19 h, rs_20 h, rs_21 h, rs_22 h, rs_23 h, rs_24 h, rs_25 h, rs_26 h, rs_27 h, rs_28 h, ro h, rI_uI, rI_uJ, rI_uR, rI_wI, rI_wJ, rJ_uJ, rJ_uI, rJ_uR, rJ_wI, rJ_wJ, rR_uR, rR_uI, rR_uJ, rR_wI, rR_wJ, qI_wI, qI_wJ, qI_uI, qI_uJ, qI_uR, qJ_wJ, qJ_wI, qJ_uI, qJ_uJ, qJ_uR, Option.bind_some, zcV_s, zcI_s, zcL_s, zrI, zrV, zrL, nI_mul8, nI_mul16, nI_mul200, nI_1, eq_self, Nat.reduceEqDiff, and_true, true_and, and_false, false_and, and_self, ite_true, ite_false, ↓reduceIte, Nat.add_zero, if_true, if_false, b2i_t, b2i_f, o2i_s, o2i_n, M.c_f0, M.c_f2, M.c_f7, M.c_f19, M.c_f29, M.r1, M.r2, M.r3, M.r4, M.r5, M.r6, M.r9, M.r11, M.r12, M.r13, M.r14, M.r15, M.r16, M.r17, M.r18, M.r19, M.r20, M.r21, M.r22, M.r23, M.r24, nI_leI, nI_ltI, nI_eq, nI_eq0, nI_eqm1, b2i_eq0, q2, fR_isTask_g h M w hy, i10, show (16 : Int32) = nI 16 from rfl, h1, h2, ha, bit_sh1 a (show x < 8 by omega), hr x (show x < 8 by omega), fR_hasInto_eq h M w (show x < 8 by omega), h3, h4]
  rw [if_neg (by decide)]
  exact key
end PM
