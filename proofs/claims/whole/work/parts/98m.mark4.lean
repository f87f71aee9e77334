/-! the class's mark: the call -/
/-- the next mark is as new -/
def FrM (s : zSt) : Prop := s_cond s (s_M s) = 0 ∧ (∀ x, s_kept s (s_M s) x = false ∧ s_fails s (s_M s) x = false ∧ s_taken s (s_M s) x = false ∧ s_kSum s (s_M s) x = 0 ∧ s_kRows s (s_M s) x = 0 ∧ s_kEnd s (s_M s) x = false) ∧ ∀ c, s_came s (s_M s) c = false
def mkT (t : pS) (n M beg : Nat) : pS := wI (wI (uR (wI (clr (wI t 0 0 9 1) 5 M) 5 M 0 (nI M)) 0 0 3 (fu (rR t 0 0 3) M (some n))) 0 0 7 (nI (M + 1))) 0 0 8 (nI (beg + 1))
section PO
variable {e : pE} {t t' : pS} {s : zSt} {n : Nat}
theorem mkT_same {M beg k i : Nat} (h0 : k ≠ 0) (h5 : ¬ (k = 5 ∧ i = M)) : same t (mkT t n M beg) k i := by
  have h0' : ¬ (k = 0 ∧ i = 0) := fun z => h0 z.1
  exact (((((same_wI h0').trans (clr_same h5)).trans (same_wI h5)).trans (same_uR h0')).trans (same_wI h0')).trans (same_wI h0')
theorem mkT_q0 {M beg f : Nat} : qI (mkT t n M beg) 0 0 f = if f = 8 then nI (beg + 1) else if f = 7 then nI (M + 1) else if f = 9 then 1 else qI t 0 0 f := by
  unfold mkT
  rw [qI_wI, qI_wI, qI_uR, qI_wI, if_neg (by omega : ¬ (0 = 5 ∧ 0 = M ∧ f = 0)), (clr_same (k := 5) (i := M) (k' := 0) (i' := 0) (by omega)).1, qI_wI]
  simp only [true_and]
theorem mkT_r0 {M beg : Nat} (j : Nat) : rR (mkT t n M beg) 0 0 j = if j = 3 then fu (rR t 0 0 3) M (some n) else rR t 0 0 j := by
  unfold mkT
  rw [rR_wI, rR_wI, rR_uR, rR_wI, (clr_same (k := 5) (i := M) (k' := 0) (i' := 0) (by omega)).2.2.2.2, rR_wI]
  simp only [true_and]
theorem mkT_q5 {M beg f : Nat} : qI (mkT t n M beg) 5 M f = if f = 0 then nI M else 0 := by
  unfold mkT
  rw [qI_wI, if_neg (by omega), qI_wI, if_neg (by omega), qI_uR, qI_wI]
  simp only [true_and, clr_qI]
theorem mkT_rI5 {M beg f : Nat} : rI (mkT t n M beg) 5 M f = fun _ => 0 := by
  unfold mkT
  rw [rI_wI, rI_wI, rI_uR, rI_wI, clr_rI]
theorem mkT_rJ5 {M beg f : Nat} : rJ (mkT t n M beg) 5 M f = fun _ => 0 := by
  unfold mkT
  rw [rJ_wI, rJ_wI, rJ_uR, rJ_wI, clr_rJ]
theorem begunS_inc (h : s_cond s (s_M s) = 0) : begunS (u_M (u_tol s true) (s_M s + 1)) = begunS s + 1 := by
  unfold begunS
  rw [su_M, y_cond_M, y_cond_tol, List.range_succ, List.filter_append, List.length_append, List.filter_cons_of_pos (by rw [h]; rfl)]
  rfl
theorem countS_new (h : FrM s) : countS (u_M (u_tol s true) (s_M s + 1)) (s_M s) = 0 := by
  unfold countS
  rw [y_N_M, y_N_tol, y_taken_M, y_taken_tol]
  have : (List.range (s_N s)).filter (fun x => s_taken s (s_M s) x) = [] := List.filter_eq_nil_iff.mpr fun x _ => by rw [(h.2.1 x).2.2.1]; decide
  rw [this]
  rfl
theorem Cls.newMark (g : Cls e t s) (hf : FE e n) (hn : NE e 5 (s_M s)) (hF : FrM s) : ClsG (extE e 5 (s_M s) n (lenM (s_N s))) (mkT t n (s_M s) (begunS s)) (u_M (u_tol s true) (s_M s + 1)) (fun _ => s_M s) (dueS s) := by
  have hs : ∀ k i, k ≠ 0 → ¬ (k = 5 ∧ i = s_M s) → same t (mkT t n (s_M s) (begunS s)) k i := fun k i h0 h5 => mkT_same h0 h5
  have hL : ∀ k i j, ¬ (k = 5 ∧ i = s_M s) → pL (extE e 5 (s_M s) n (lenM (s_N s))) k i j = pL e k i j := fun k i j h => ext_L h j
  obtain ⟨E0, E1, E2, E3, E4, E5⟩ := ClsG.E g
  obtain ⟨R1, R2, R3, R4, R5⟩ := ClsG.R g
  unfold ClsG
  simp only [y_N_M, y_N_tol, y_C_M, y_C_tol, y_fr_M, y_fr_tol, y_to_M, y_to_tol, y_tol_M, su_tol, y_sum_M, y_sum_tol, y_rows_M, y_rows_tol, y_ended_M, y_ended_tol, y_q_M, y_q_tol, y_log_M, y_log_tol, y_fin_M, y_fin_tol, y_stand_M, y_stand_tol, y_over_M, y_over_tol, y_held_M, y_held_tol, su_M, y_cond_M, y_cond_tol, y_pos_M, y_pos_tol, y_kept_M, y_kept_tol, y_kEnd_M, y_kEnd_tol, y_kSum_M, y_kSum_tol, y_kRows_M, y_kRows_tol, y_fails_M, y_fails_tol, y_taken_M, y_taken_tol, y_acks_M, y_acks_tol, d_ins_M, d_ins_tol, d_outs_M, d_outs_tol, d_look_M, d_look_tol, begunS_inc hF.1]
  refine ⟨⟨ext_oKo hf hn (by omega) E0, ext_oKo hf hn (by omega) E1, fun x hx => ext_oKo hf hn (by omega) (E2 x hx), fun c hc hfr => ext_oKo hf hn (by omega) (E3 c hc hfr), fun c k hc hfr => ext_oKo hf hn (by omega) (E4 c k hc hfr), fun m hm => ?_⟩, ⟨fun x hx => ?_, fun c hc => ?_, fun m hm => ?_, fun x i c hx hi => ?_, fun x i c hx hi => ?_⟩, ?_, (ClsG.A g).fr (hs 1 0 (by decide) (by omega)), (ClsG.T g).fr (fun x => hs 2 x (by decide) (by omega)), (ClsG.C g).fr (fun c f _ => by rw [(hs 3 c (by decide) (by omega)).1]) (fun c f _ => by rw [(hs 4 c (by decide) (by omega)).1]), (ClsG.S g).fr (fun c => hs 3 c (by decide) (by omega)), (ClsG.L g).fr (fun c => hs 4 c (by decide) (by omega)), fun m hm => ?_⟩
  · by_cases q : m = s_M s
    · rw [q]; exact ext_oK E0.1 hf hn
    · exact ext_oKo hf hn (by omega) (E5 m (by omega))
  · rw [mkT_r0, if_neg (by decide), hL 2 x 0 (by omega)]; exact R1 x hx
  · have := chK_34 (s_fr s) c
    rw [mkT_r0, if_neg (by decide), hL _ c 0 (by omega)]; exact R2 c hc
  · rw [mkT_r0, if_pos rfl]
    by_cases q : m = s_M s
    · rw [q, fu_self, ext_Ln (by show 0 < 7; omega)]; rfl
    · rw [fu_ne _ _ q, hL 5 m 0 (by omega)]; exact R3 m (by omega)
  · have := chK_34 (s_fr s) c
    rw [(hs 2 x (by decide) (by omega)).2.2.2.2, hL _ c 0 (by omega)]; exact R4 x i c hx hi
  · rw [(hs 2 x (by decide) (by omega)).2.2.2.2, hL 4 c 0 (by omega)]; exact R5 x i c hx hi
  · obtain ⟨h6, h7, h8, h9⟩ := ClsG.B g
    refine ⟨?_, ?_, ?_, ?_⟩
    · rw [mkT_q0]; exact h6
    · rw [mkT_q0]; rfl
    · rw [mkT_q0]; rfl
    · rw [mkT_q0]; rfl
  · by_cases q : m = s_M s
    · rw [q, countS_new hF, hF.1]
      refine ⟨by rw [mkT_q5]; rfl, fun x _ => ?_, fun x _ => ?_, fun x _ => ?_, fun x _ => ?_, fun x _ => ?_, fun x _ => ?_, by rw [mkT_q5]; rfl, by rw [mkT_q5]; rfl⟩
      · rw [mkT_rI5]; show (0 : Int32) = b2i (s_kept s (s_M s) x); rw [(hF.2.1 x).1]; rfl
      · rw [mkT_rI5]; show (0 : Int32) = b2i (s_fails s (s_M s) x); rw [(hF.2.1 x).2.1]; rfl
      · rw [mkT_rI5]; show (0 : Int32) = b2i (s_taken s (s_M s) x); rw [(hF.2.1 x).2.2.1]; rfl
      · rw [mkT_rJ5]; exact (hF.2.1 x).2.2.2.1.symm
      · rw [mkT_rI5]; exact (hF.2.1 x).2.2.2.2.1.symm
      · rw [mkT_rI5]; show (0 : Int32) = b2i (s_kEnd s (s_M s) x); rw [(hF.2.1 x).2.2.2.2.2]; rfl
    · have e1 : countS (u_M (u_tol s true) (s_M s + 1)) m = countS s m := by unfold countS; rw [y_N_M, y_N_tol, y_taken_M, y_taken_tol]
      rw [e1]
      exact (ClsG.M g m (by omega)).fr (hs 5 m (by decide) (by omega))
theorem znw_eq {V : zV} {n : Nat} {c : zE} {K : Nat → zV → Nat → Option zR} : znw V n c K = K n (mkm V n [c]) (n + 1) := by unfold znw; rw [mkm_new]
theorem zgR_out {V : zV} {a b k : Nat} {l : List zE} {cs : List Nat} (h : b < a) : zgR (mkm V a l) (some b) cs k = zgR V (some b) cs k := by unfold zgR; rw [obj_out h]
theorem zalen_out {V : zV} {a b k : Nat} {l : List zE} (h : b < a) : zalen (mkm V a l) (some b) k = zalen V (some b) k := by unfold zalen; rw [arr_out h]
set_option maxHeartbeats 2000000 in
theorem fB_mark_run (g : Cls e t s) (w : Wf s) (hf : FE e n) (hn : NE e 5 (s_M s)) (h6 : KE e) (hb : begunS s < 3) (hM : s_M s < 40) : fB_mark (pv e t) n (pL e 0 0 0) = fB_mark_80 zF (pv (extE e 5 (s_M s) n (lenM (s_N s))) (mkT t n (s_M s) (begunS s))) (n + 7) (pL (extE e 5 (s_M s) n (lenM (s_N s))) 0 0 0) (nI (s_M s)) (some (pL (extE e 5 (s_M s) n (lenM (s_N s))) 5 (s_M s) 0)) 0 := by
  have hN8 := w.N8
  have o0 := ClsG.o0 g
  obtain ⟨b6, b7, b8, b9⟩ := ClsG.B g
  have l0 : pL e 0 0 0 < n := hf _ _ (i0_0 o0)
  have l1 : pL e 0 0 1 < n := hf _ _ (i0_1 o0)
  have o0' : o0K (extE e 5 (s_M s) n (lenM (s_N s))) 0 (s_N s) := ext_oKo hf hn (by omega) o0
  have o5' : o5K (extE e 5 (s_M s) n (lenM (s_N s))) (s_M s) (s_N s) := ext_oK o0.1 hf hn
  have hL0 : pL (extE e 5 (s_M s) n (lenM (s_N s))) 0 0 0 = pL e 0 0 0 := ext_L (by omega) 0
  have hL5 : pL (extE e 5 (s_M s) n (lenM (s_N s))) 5 (s_M s) 0 = n := by rw [ext_Ln (by show 0 < 7; omega)]; rfl
  have hobj := b5 (t := wI (clr (wI t 0 0 9 1) 5 (s_M s)) 5 (s_M s) 0 (nI (s_M s))) o5'
  rw [hL5] at hobj
  have hst := zs0_3 o0' (x := s_M s) hM hobj
  have q7 : qI (uR (wI (clr (wI t 0 0 9 1) 5 (s_M s)) 5 (s_M s) 0 (nI (s_M s))) 0 0 3 (fu (rR (wI (clr (wI t 0 0 9 1) 5 (s_M s)) 5 (s_M s) 0 (nI (s_M s))) 0 0 3) (s_M s) (some n))) 0 0 7 = nI (s_M s) := by
    rw [qI_uR, qI_wI, if_neg (by omega), (clr_same (k := 5) (i := s_M s) (k' := 0) (i' := 0) (by omega)).1, qI_wI, if_neg (by omega)]; exact b7
  have q8 : qI (uR (wI (clr (wI t 0 0 9 1) 5 (s_M s)) 5 (s_M s) 0 (nI (s_M s))) 0 0 3 (fu (rR (wI (clr (wI t 0 0 9 1) 5 (s_M s)) 5 (s_M s) 0 (nI (s_M s))) 0 0 3) (s_M s) (some n))) 0 0 8 = nI (begunS s) := by
    rw [qI_uR, qI_wI, if_neg (by omega), (clr_same (k := 5) (i := s_M s) (k' := 0) (i' := 0) (by omega)).1, qI_wI, if_neg (by omega)]; exact b8
  have hr3 : rR (wI (clr (wI t 0 0 9 1) 5 (s_M s)) 5 (s_M s) 0 (nI (s_M s))) 0 0 3 = rR t 0 0 3 := by
    rw [rR_wI, (clr_same (k := 5) (i := s_M s) (k' := 0) (i' := 0) (by omega)).2.2.2.2, rR_wI]
  have q79 : qI (wI t 0 0 9 1) 0 0 7 = nI (s_M s) := by rw [qI_wI, if_neg (by omega)]; exact b7
  unfold fB_mark
  generalize fB_mark_80 zF = R
  rw [f0_8 o0, Option.bind_some, b8, if_neg (by rw [show (3 : Int32) = nI 3 from rfl, nI_leI (by decide) (by omega)]; omega), f0_7 o0, Option.bind_some, b7, if_pos (by rw [show (40 : Int32) = nI 40 from rfl, nI_ltI (by omega) (by decide)]; exact hM), p0_9 o0 (Or.inr rfl), Option.bind_some, f0_7 o0, Option.bind_some, q79]
  rw [znw_eq, zgR_out l0, f0_0 o0, Option.bind_some, zalen_out l1, a0_1 o0, Option.bind_some, fM_init_eq _ _ _ hN8, zdV_s, new_mark hf hn h6, ← hL0, f0_2 o0', Option.bind_some, hst, Option.bind_some, f0_7 o0', Option.bind_some, q7, nI_1, p0_7 o0', Option.bind_some, f0_8 o0', Option.bind_some]
  rw [qI_wI, if_neg (by omega), q8, nI_1, p0_8 o0', Option.bind_some, hr3, hL5]
  rfl
end PO
