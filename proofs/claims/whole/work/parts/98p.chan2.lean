/-! the class's channel: class and state with the new channel -/
/-- the next channel is as new, and nothing has been taken -/
def FrC (s : zSt) : Prop := s_q s (s_C s) = [] ∧ s_log s (s_C s) = [] ∧ s_fin s (s_C s) = false ∧ s_stand s (s_C s) = 0 ∧ s_over s (s_C s) = false ∧ s_held s (s_C s) = none ∧ s_M s = 0 ∧ ∀ x, s_latest s x = none
theorem ins_new (s : zSt) (k : Option Nat) (b x : Nat) : ins (channelS s k b) x = ins s x ++ (if b = x then [s_C s] else []) := by
  unfold ins channelS
  rw [su_C, y_to_C, su_to, List.range_succ, List.filter_append]
  congr 1
  · refine List.filter_congr fun c hc => ?_
    rw [fu_ne _ _ (by have := List.mem_range.mp hc; omega)]
  · by_cases q : b = x
    · rw [if_pos q, List.filter_cons_of_pos (by rw [fu_self, q]; exact beq_self_eq_true x)]; rfl
    · rw [if_neg q, List.filter_cons_of_neg (by rw [fu_self, bqf q]; decide)]; rfl
theorem outs_new (s : zSt) (k : Option Nat) (b x : Nat) : outs (channelS s k b) x = outs s x ++ (if k = some x then [s_C s] else []) := by
  unfold outs channelS
  rw [su_C, y_fr_C, y_fr_to, su_fr, List.range_succ, List.filter_append]
  congr 1
  · refine List.filter_congr fun c hc => ?_
    rw [fu_ne _ _ (by have := List.mem_range.mp hc; omega)]
  · by_cases q : k = some x
    · rw [if_pos q, List.filter_cons_of_pos (by rw [fu_self, q]; exact beq_self_eq_true _)]; rfl
    · rw [if_neg q, List.filter_cons_of_neg (by rw [fu_self, bqo q]; decide)]; rfl
theorem cs_N (s : zSt) (k : Option Nat) (b : Nat) : s_N (channelS s k b) = s_N s := by unfold channelS; rw [y_N_C, y_N_to, y_N_fr]
section PO
variable {e : pE} {t t5 : pS} {s : zSt} {n K : Nat} {L : List Nat} {k : Option Nat} {b : Nat}
theorem Cls.newChan (g : Cls e t s) (hF : FrC s) (hf : FE e n) (hK : K = if k = none then 3 else 4) (hL : L = if k = none then lenS else lenL) (hn : NE e K (s_C s)) (h_same : ∀ k' i', k' ≠ 0 → k' ≠ 2 → ¬ (k' = K ∧ i' = s_C s) → same t t5 k' i') (h_q0 : ∀ f, qI t5 0 0 f = if f = 6 then nI (s_C s + 1) else qI t 0 0 f) (h_r0 : ∀ j, rR t5 0 0 j = if j = 2 then fu (rR t 0 0 2) (s_C s) (some n) else rR t 0 0 j) (h_q2 : ∀ x f, f ≠ 3 → f ≠ 4 → qI t5 2 x f = qI t 2 x f) (h_j2 : ∀ x, qJ t5 2 x = qJ t 2 x) (h_3 : ∀ x, x < s_N s → qI t5 2 x 3 = nI (ins (channelS s k b) x).length) (h_4 : ∀ x, x < s_N s → qI t5 2 x 4 = nI (outs (channelS s k b) x).length) (h_ri : ∀ x i c, x < s_N s → (ins (channelS s k b) x)[i]? = some c → rR t5 2 x 1 i = some (pL (extE e K (s_C s) n L) (chK (fu (s_fr s) (s_C s) k) c) c 0)) (h_ro : ∀ x i c, x < s_N s → (outs (channelS s k b) x)[i]? = some c → rR t5 2 x 2 i = some (pL (extE e K (s_C s) n L) 4 c 0)) (h_c : cCo t5 K (s_C s) k b none false) (h_s : k = none → cSo t5 (s_C s) [] false 0 0 (fun m => s_pos s m (s_C s)) []) (h_l : ∀ j, k = some j → cLo t5 (s_C s) []) : Cls (extE e K (s_C s) n L) t5 (channelS s k b) := by
  have hK34 : K = 3 ∨ K = 4 := by
    rw [hK]
    split
    · exact Or.inl rfl
    · exact Or.inr rfl
  obtain ⟨F1, F2, F3, F4, F5, F6, F7, F8⟩ := hF
  have hchK : ∀ c, c < s_C s → chK (fu (s_fr s) (s_C s) k) c = chK (s_fr s) c := fun c hc => by unfold chK; rw [fu_ne _ _ (by omega)]
  have hchN : chK (fu (s_fr s) (s_C s) k) (s_C s) = K := by unfold chK; rw [fu_self, hK]
  have hLo : ∀ k' i' j, ¬ (k' = K ∧ i' = s_C s) → pL (extE e K (s_C s) n L) k' i' j = pL e k' i' j := fun k' i' j h => ext_L h j
  have hlen : 0 < L.length := by rw [hL]; split <;> decide
  obtain ⟨E0, E1, E2, E3, E4, E5⟩ := ClsG.E g
  obtain ⟨R1, R2, R3, R4, R5⟩ := ClsG.R g
  have hlk : look (channelS s k b) = look s := by
    funext x
    unfold look
    have e1 : s_latest (channelS s k b) x = none := by unfold channelS; rw [y_latest_C, y_latest_to, y_latest_fr]; exact F8 x
    rw [e1, F8 x]
  have hbg : begunS (channelS s k b) = begunS s := by unfold begunS channelS; rw [y_M_C, y_M_to, y_M_fr, y_cond_C, y_cond_to, y_cond_fr]
  have hct : countS (channelS s k b) = countS s := by funext x; unfold countS channelS; rw [y_N_C, y_N_to, y_N_fr, y_taken_C, y_taken_to, y_taken_fr]
  have hdu : dueS (channelS s k b) = dueS s := by funext x; unfold dueS channelS; rw [y_M_C, y_M_to, y_M_fr, y_cond_C, y_cond_to, y_cond_fr, y_came_C, y_came_to, y_came_fr]
  have hd0 : ∀ c, dueS s c = [] := fun c => by unfold dueS; rw [F7]; rfl
  unfold Cls ClsG
  rw [hlk, hbg, hct, hdu]
  have eN := cs_N s k b
  have eC : s_C (channelS s k b) = s_C s + 1 := by unfold channelS; rw [su_C]
  have eF : s_fr (channelS s k b) = fu (s_fr s) (s_C s) k := by unfold channelS; rw [y_fr_C, y_fr_to, su_fr]
  have eT : s_to (channelS s k b) = fu (s_to s) (s_C s) b := by unfold channelS; rw [y_to_C, su_to]
  have hrest : s_M (channelS s k b) = s_M s ∧ s_tol (channelS s k b) = s_tol s ∧ s_acks (channelS s k b) = s_acks s ∧ s_sum (channelS s k b) = s_sum s ∧ s_rows (channelS s k b) = s_rows s ∧ s_ended (channelS s k b) = s_ended s ∧ s_held (channelS s k b) = s_held s ∧ s_over (channelS s k b) = s_over s ∧ s_log (channelS s k b) = s_log s ∧ s_fin (channelS s k b) = s_fin s ∧ s_stand (channelS s k b) = s_stand s ∧ s_pos (channelS s k b) = s_pos s ∧ s_q (channelS s k b) = s_q s ∧ s_kept (channelS s k b) = s_kept s ∧ s_fails (channelS s k b) = s_fails s ∧ s_taken (channelS s k b) = s_taken s ∧ s_kSum (channelS s k b) = s_kSum s ∧ s_kRows (channelS s k b) = s_kRows s ∧ s_kEnd (channelS s k b) = s_kEnd s ∧ s_cond (channelS s k b) = s_cond s := by
    unfold channelS
    simp only [y_N_C, y_fr_C, y_to_C, y_tol_C, y_sum_C, y_rows_C, y_ended_C, y_latest_C, y_q_C, y_log_C, y_fin_C, y_stand_C, y_over_C, y_held_C, y_M_C, y_cond_C, y_pos_C, y_came_C, y_kept_C, y_kEnd_C, y_kSum_C, y_kRows_C, y_fails_C, y_taken_C, y_acks_C, su_C, y_N_to, y_C_to, y_fr_to, y_tol_to, y_sum_to, y_rows_to, y_ended_to, y_latest_to, y_q_to, y_log_to, y_fin_to, y_stand_to, y_over_to, y_held_to, y_M_to, y_cond_to, y_pos_to, y_came_to, y_kept_to, y_kEnd_to, y_kSum_to, y_kRows_to, y_fails_to, y_taken_to, y_acks_to, su_to, y_N_fr, y_C_fr, y_to_fr, y_tol_fr, y_sum_fr, y_rows_fr, y_ended_fr, y_latest_fr, y_q_fr, y_log_fr, y_fin_fr, y_stand_fr, y_over_fr, y_held_fr, y_M_fr, y_cond_fr, y_pos_fr, y_came_fr, y_kept_fr, y_kEnd_fr, y_kSum_fr, y_kRows_fr, y_fails_fr, y_taken_fr, y_acks_fr, su_fr, and_self]
  obtain ⟨q1, q2, q3, q4, q5, q6, q7, q8, q9, q10, q11, q12, q13, q14, q15, q16, q17, q18, q19, q20⟩ := hrest
  rw [eN, eC, eF, eT, q1, q2, q3, q4, q5, q6, q7, q8, q9, q10, q11, q12, q13, q14, q15, q16, q17, q18, q19, q20]
  refine ⟨⟨ext_oKo hf hn (by omega) E0, ext_oKo hf hn (by omega) E1, fun x hx => ext_oKo hf hn (by omega) (E2 x hx), fun c hc hfr => ?_, fun c j hc hfr => ?_, fun m hm => by omega⟩, ⟨fun x hx => ?_, fun c hc => ?_, fun m hm => by omega, h_ri, h_ro⟩, ?_, (ClsG.A g).fr (h_same 1 0 (by decide) (by decide) (by omega)), fun x hx => ?_, fun c hc => ?_, fun c hc hfr => ?_, fun c j hc hfr => ?_, fun m hm => by omega⟩
  · by_cases q : c = s_C s
    · rw [q, fu_self] at hfr
      rw [q]
      have hK3 : K = 3 := by rw [hK, if_pos hfr]
      have hL3 : L = lenS := by rw [hL, if_pos hfr]
      subst hK3
      rw [hL3]
      exact ext_oK E0.1 hf hn
    · rw [fu_ne _ _ q] at hfr
      exact ext_oKo hf hn (by omega) (E3 c (by omega) hfr)
  · by_cases q : c = s_C s
    · rw [q, fu_self] at hfr
      rw [q]
      have hK4 : K = 4 := by rw [hK, if_neg (by rw [hfr]; intro z; cases z)]
      have hL4 : L = lenL := by rw [hL, if_neg (by rw [hfr]; intro z; cases z)]
      subst hK4
      rw [hL4]
      exact ext_oK E0.1 hf hn
    · rw [fu_ne _ _ q] at hfr
      exact ext_oKo hf hn (by omega) (E4 c j (by omega) hfr)
  · rw [h_r0, if_neg (by decide), hLo 2 x 0 (by omega)]; exact R1 x hx
  · rw [h_r0, if_pos rfl]
    by_cases q : c = s_C s
    · rw [q, fu_self, hchN, ext_Ln hlen]; rfl
    · have := chK_34 (s_fr s) c
      rw [fu_ne _ _ q, hchK c (by omega), hLo _ c 0 (by omega)]; exact R2 c (by omega)
  · obtain ⟨h6, h7, h8, h9⟩ := ClsG.B g
    refine ⟨?_, ?_, ?_, ?_⟩
    · rw [h_q0]; rfl
    · rw [h_q0]; exact h7
    · rw [h_q0]; exact h8
    · rw [h_q0]; exact h9
  · obtain ⟨a0, a1, a2, a3, a4, a5, a6⟩ := ClsG.T g x hx
    refine ⟨?_, h_3 x hx, h_4 x hx, ?_, ?_, ?_, ?_⟩
    · rw [h_q2 x 0 (by decide) (by decide)]; exact a0
    · rw [h_q2 x 5 (by decide) (by decide)]; exact a3
    · rw [h_j2]; exact a4
    · rw [h_q2 x 7 (by decide) (by decide)]; exact a5
    · rw [h_q2 x 8 (by decide) (by decide)]; exact a6
  · by_cases q : c = s_C s
    · rw [q, hchN, fu_self, fu_self, F6, F5]; exact h_c
    · have := chK_34 (s_fr s) c
      rw [hchK c (by omega), fu_ne _ _ q, fu_ne _ _ q]
      exact (ClsG.C g c (by omega)).fr (fun f _ => by rw [(h_same _ c (by omega) (by omega) (by omega)).1])
  · by_cases q : c = s_C s
    · rw [q, fu_self] at hfr
      rw [q, F2, F3, F4, F7, hd0]
      exact h_s hfr
    · rw [fu_ne _ _ q] at hfr
      exact (ClsG.S g c (by omega) hfr).fr (h_same 3 c (by decide) (by decide) (by omega))
  · by_cases q : c = s_C s
    · rw [q, fu_self] at hfr
      rw [q, F1]
      exact h_l j hfr
    · rw [fu_ne _ _ q] at hfr
      exact (ClsG.L g c j (by omega) hfr).fr (h_same 4 c (by decide) (by decide) (by omega))
end PO
