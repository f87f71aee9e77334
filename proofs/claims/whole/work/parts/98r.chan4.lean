/-! the class's channel from outside -/
def srT (t : pS) (C : Nat) (b : Int32) : pS := wI (wI (wI (clr t 3 C) 3 C 0 (-1)) 3 C 1 b) 3 C 2 (-1)
section PO
variable {e : pE} {t : pS} {s : zSt} {n : Nat}
theorem srT_same {C k i : Nat} {b : Int32} (h : ¬ (k = 3 ∧ i = C)) : same t (srT t C b) k i := (((clr_same h).trans (same_wI h)).trans (same_wI h)).trans (same_wI h)
theorem srT_q {C f : Nat} {b : Int32} : qI (srT t C b) 3 C f = if f = 2 then -1 else if f = 1 then b else if f = 0 then -1 else 0 := by
  unfold srT
  rw [qI_wI, qI_wI, qI_wI]
  simp only [true_and, clr_qI]
theorem srT_j {C f : Nat} {b : Int32} : qJ (srT t C b) 3 C f = 0 := by
  unfold srT
  rw [qJ_wI, qJ_wI, qJ_wI, clr_qJ]
theorem ins_lt (w : Wf s) (x : Nat) : (ins s x).length ≤ s_C s := by
  unfold ins
  refine Nat.le_trans (List.length_filter_le _ _) ?_
  rw [List.length_range]
  exact Nat.le_refl _
theorem Cls.newSource (g : Cls e t s) (w : Wf s) (hF : FrC s) (hf : FE e n) (hn : NE e 3 (s_C s)) {b : Nat} (hb : b < s_N s) : Cls (extE e 3 (s_C s) n lenS) (adT (srT t (s_C s) (nI b)) n (s_C s) (ins s b).length b) (channelS s none b) := by
  have hs1 : ∀ k i, ¬ (k = 3 ∧ i = s_C s) → same t (srT t (s_C s) (nI b)) k i := fun k i h => srT_same h
  have s0 := hs1 0 0 (by omega)
  have s2 : ∀ x, same t (srT t (s_C s) (nI b)) 2 x := fun x => hs1 2 x (by omega)
  obtain ⟨R1, R2, R3, R4, R5⟩ := ClsG.R g
  have hM0 : s_M s = 0 := hF.2.2.2.2.2.2.1
  have hnew : ∀ f, qI (adT (srT t (s_C s) (nI b)) n (s_C s) (ins s b).length b) 3 (s_C s) f = qI (srT t (s_C s) (nI b)) 3 (s_C s) f := fun f => by rw [(adT_same (by decide) (by omega)).1]
  refine g.newChan hF hf rfl rfl hn (fun k' i' h0 h2 h3 => (hs1 k' i' h3).trans (adT_same h0 (fun z => h2 z.1))) (fun f => ?_) (fun j => ?_) (fun x f h3 h4 => ?_) (fun x => ?_) (fun x hx => ?_) (fun x hx => ?_) (fun x i c hx hi => ?_) (fun x i c hx hi => ?_) ?_ (fun _ => ?_) (fun j hj => by cases hj)
  · rw [adT_q0, s0.1]
  · rw [adT_r0, s0.2.2.2.2]
  · rw [adT_q2, if_neg (fun z => h3 z.2), (s2 x).1]
  · rw [adT_j2, (s2 x).2.1]
  · rw [adT_q2, ins_new]
    by_cases q : x = b
    · rw [if_pos ⟨q, rfl⟩, if_pos q.symm, List.length_append, q]; rfl
    · rw [if_neg (fun z => q z.1), if_neg (fun z => q z.symm), List.append_nil, (s2 x).1]; exact (ClsG.T g x hx).2.1
  · rw [adT_q2, if_neg (fun z => by have := z.2; omega), outs_new, if_neg (by intro z; cases z), List.append_nil, (s2 x).1]; exact (ClsG.T g x hx).2.2.1
  · rw [adT_r2, ins_new] at *
    have hold : ∀ j c, (ins s x)[j]? = some c → rR t 2 x 1 j = some (pL (extE e 3 (s_C s) n lenS) (chK (fu (s_fr s) (s_C s) none) c) c 0) := fun j c hj => by
      have hc := (mem_ins.mp (List.mem_of_getElem? hj)).1
      have e1 : chK (fu (s_fr s) (s_C s) none) c = chK (s_fr s) c := by unfold chK; rw [fu_ne _ _ (by omega)]
      rw [e1, ext_L (by omega)]
      exact R4 x j c hx hj
    by_cases q : x = b
    · rw [if_pos q.symm] at hi
      rw [if_pos ⟨q, rfl⟩, (s2 b).2.2.2.2]
      rw [q] at hi hold
      by_cases qi : i = (ins s b).length
      · rw [qi, List.getElem?_append_right (Nat.le_refl _), Nat.sub_self] at hi
        cases hi
        have e1 : chK (fu (s_fr s) (s_C s) none) (s_C s) = 3 := by unfold chK; rw [fu_self]; rfl
        rw [qi, fu_self, e1, ext_Ln (by decide)]
        rfl
      · have hlt : i < (ins s b ++ [s_C s]).length := (List.getElem?_eq_some_iff.mp hi).1
        rw [List.length_append, List.length_singleton] at hlt
        rw [List.getElem?_append_left (by omega)] at hi
        rw [fu_ne _ _ qi]
        exact hold i c hi
    · rw [if_neg (fun z => q z.symm), List.append_nil] at hi
      rw [if_neg (fun z => q z.1), (s2 x).2.2.2.2]
      exact hold i c hi
  · rw [outs_new, if_neg (by intro z; cases z), List.append_nil] at hi
    rw [adT_r2, if_neg (fun z => by have := z.2; omega), (s2 x).2.2.2.2, ext_L (by omega)]
    exact R5 x i c hx hi
  · refine ⟨?_, ?_, ?_, ?_⟩
    · rw [hnew, srT_q]; rfl
    · rw [hnew, srT_q]; rfl
    · rw [hnew, srT_q]; rfl
    · rw [hnew, srT_q]; rfl
  · refine ⟨hL_nil _ _ _, ?_, by decide, ?_, ?_, Nat.le_refl _, ?_, fun m hm => by omega, fun m hm => by omega, hL_nil _ _ _, ?_, by decide, by decide, fun d hd => (by cases hd), fun m hm => by omega⟩
    · rw [hnew, srT_q]; rfl
    · rw [adT_j2, srT_j]; rfl
    · rw [hnew, srT_q]; rfl
    · rw [hnew, srT_q]; rfl
    · rw [hnew, srT_q]; rfl
theorem fB_channel_s (g : Cls e t s) (w : Wf s) (hF : FrC s) (hf : FE e n) (hn : NE e 3 (s_C s)) (h6 : KE e) (hC : s_C s < 16) (htl : s_tol s = false) {b : Nat} (hb : b < s_N s) : ∃ t', fB_channel (pv e t) n (pL e 0 0 0) (-1) (nI b) = some (.inl (some (.int (nI (s_C s)))), pv (extE e 3 (s_C s) n lenS) t', n + 5) ∧ Cls (extE e 3 (s_C s) n lenS) t' (channelS s none b) ∧ Fr PC t t' := by
  have o0 := ClsG.o0 g
  have hni := ins_lt w b
  obtain ⟨b6, b7, b8, b9⟩ := ClsG.B g
  rw [htl] at b9
  have o0' : o0K (extE e 3 (s_C s) n lenS) 0 (s_N s) := ext_oKo hf hn (by omega) o0
  have o2' : o2K (extE e 3 (s_C s) n lenS) b 0 := ext_oKo hf hn (by omega) (ClsG.o2 g hb)
  have o3' : o3K (extE e 3 (s_C s) n lenS) (s_C s) 0 := ext_oK o0.1 hf hn
  have hL0 : pL (extE e 3 (s_C s) n lenS) 0 0 0 = pL e 0 0 0 := ext_L (by omega) 0
  have hL2 : pL (extE e 3 (s_C s) n lenS) 2 b 0 = pL e 2 b 0 := ext_L (by omega) 0
  have hL3 : pL (extE e 3 (s_C s) n lenS) 3 (s_C s) 0 = n := by rw [ext_Ln (by decide)]; rfl
  have had := fB_addChannel_eq (n := n + 5) (t := srT t (s_C s) (nI b)) o0' o2' (a := n) (C := s_C s) (ni := (ins s b).length) (fun t => ⟨_, _, by have := bc3 (t := t) o3'; rw [hL3] at this; exact this⟩) (by rw [(srT_same (k := 0) (i := 0) (by omega)).1]; exact b6) hC (by rw [(srT_same (k := 2) (i := b) (by omega)).1]; exact (ClsG.T g b hb).2.1) (by omega)
  refine ⟨_, ?_, g.newSource w hF hf hn hb, ?_⟩
  · rw [hL0, hL2] at had
    unfold fB_channel fB_channel_20
    rw [b0 o0, Option.bind_some, fB_taskAt_g g w hb, zcR_s, if_pos rfl, f0_9 o0, Option.bind_some, b9, b2i_f, if_pos rfl, f0_6 o0, Option.bind_some, b6, if_pos (by rw [show (16 : Int32) = nI 16 from rfl, nI_ltI (by omega) (by decide)]; exact hC), if_pos rfl, znw_eq, fS_init_eq, zdV_s, new_source hf hn h6]
    rw [← hL0, b0 o0', Option.bind_some, hL0]
    show zcI (fB_addChannel (pv (extE e 3 (s_C s) n lenS) (srT t (s_C s) (nI b))) (n + 5) (pL e 0 0 0) (some n) (some (pL e 2 b 0))) _ = _
    rw [had, zcI_s]
    rfl
  · intro k i h
    exact (srT_same (fun z => h (by show k ≤ 5; omega))).trans (adT_same (fun z => h (by show k ≤ 5; omega)) (fun z => h (by show k ≤ 5; omega)))
end PO
