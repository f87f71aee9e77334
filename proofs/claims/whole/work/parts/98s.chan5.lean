/-! the class's channel between tasks -/
def lnT (t : pS) (C : Nat) (a b : Int32) : pS := wI (wI (wI (clr t 4 C) 4 C 0 a) 4 C 1 b) 4 C 2 (-1)
def aoT (t : pS) (n no a : Nat) : pS := wI (uR t 2 a 2 (fu (rR t 2 a 2) no (some n))) 2 a 4 (nI (no + 1))
section PO
variable {e : pE} {t : pS} {s : zSt} {n : Nat}
theorem lnT_same {C k i : Nat} {a b : Int32} (h : ¬ (k = 4 ∧ i = C)) : same t (lnT t C a b) k i := (((clr_same h).trans (same_wI h)).trans (same_wI h)).trans (same_wI h)
theorem lnT_q {C f : Nat} {a b : Int32} : qI (lnT t C a b) 4 C f = if f = 2 then -1 else if f = 1 then b else if f = 0 then a else 0 := by
  unfold lnT
  rw [qI_wI, qI_wI, qI_wI]
  simp only [true_and, clr_qI]
theorem aoT_same {no a k i : Nat} (h : ¬ (k = 2 ∧ i = a)) : same t (aoT t n no a) k i := (same_uR h).trans (same_wI h)
theorem aoT_q2 {no a x f : Nat} : qI (aoT t n no a) 2 x f = if x = a ∧ f = 4 then nI (no + 1) else qI t 2 x f := by
  unfold aoT
  rw [qI_wI, qI_uR]
  simp only [true_and]
theorem aoT_j {no a : Nat} : qJ (aoT t n no a) = qJ t := by
  unfold aoT
  rw [qJ_wI, qJ_uR]
theorem aoT_r2 {no a x : Nat} (j : Nat) : rR (aoT t n no a) 2 x j = if x = a ∧ j = 2 then fu (rR t 2 a 2) no (some n) else rR t 2 x j := by
  unfold aoT
  rw [rR_wI, rR_uR]
  simp only [true_and]
theorem fT_addOut_eq {n' : Nat} {a no : Nat} (o2 : o2K e a 0) {ci : Nat} {fs : List Value} (hob : z_obj (pv e t) (some n) [2] = some (n, ci, fs)) (h4 : qI t 2 a 4 = nI no) (hno : no < 16) : fT_addOut (pv e t) n' (pL e 2 a 0) (some n) = some (.inl none, pv e (aoT t n no a), n') := by
  have hs2 := zs2_2 o2 (x := no) hno hob
  have q4 : qI (uR t 2 a 2 (fu (rR t 2 a 2) no (some n))) 2 a 4 = nI no := by rw [qI_uR]; exact h4
  unfold fT_addOut
  rw [f2_4 o2, Option.bind_some, h4, f2_2 o2, Option.bind_some, a2_2 o2, Option.bind_some, if_neg (by rw [nI_leI (by decide) (by omega)]; omega), Option.bind_some, Option.bind_some, hs2, Option.bind_some, f2_4 o2, Option.bind_some, q4, nI_1, p2_4 o2, Option.bind_some]
  rfl
theorem outs_lt (w : Wf s) (x : Nat) : (outs s x).length ≤ s_C s := by
  unfold outs
  refine Nat.le_trans (List.length_filter_le _ _) ?_
  rw [List.length_range]
  exact Nat.le_refl _
theorem Cls.newLine (g : Cls e t s) (w : Wf s) (hF : FrC s) (hf : FE e n) (hn : NE e 4 (s_C s)) {a b : Nat} (ha : a < s_N s) (hb : b < s_N s) : Cls (extE e 4 (s_C s) n lenL) (adT (aoT (lnT t (s_C s) (nI a) (nI b)) n (outs s a).length a) n (s_C s) (ins s b).length b) (channelS s (some a) b) := by
  have hs1 : ∀ k i, ¬ (k = 4 ∧ i = s_C s) → same t (lnT t (s_C s) (nI a) (nI b)) k i := fun k i h => lnT_same h
  have s0 : same t (aoT (lnT t (s_C s) (nI a) (nI b)) n (outs s a).length a) 0 0 := (hs1 0 0 (by omega)).trans (aoT_same (by omega))
  have s2 : ∀ x, same t (lnT t (s_C s) (nI a) (nI b)) 2 x := fun x => hs1 2 x (by omega)
  obtain ⟨R1, R2, R3, R4, R5⟩ := ClsG.R g
  have hnew : ∀ f, qI (adT (aoT (lnT t (s_C s) (nI a) (nI b)) n (outs s a).length a) n (s_C s) (ins s b).length b) 4 (s_C s) f = qI (lnT t (s_C s) (nI a) (nI b)) 4 (s_C s) f := fun f => by rw [(adT_same (by decide) (by omega)).1, (aoT_same (by omega)).1]
  have hchK : ∀ c, c < s_C s → chK (fu (s_fr s) (s_C s) (some a)) c = chK (s_fr s) c := fun c hc => by unfold chK; rw [fu_ne _ _ (by omega)]
  refine g.newChan hF hf rfl rfl hn (fun k' i' h0 h2 h3 => ((hs1 k' i' h3).trans (aoT_same (fun z => h2 z.1))).trans (adT_same h0 (fun z => h2 z.1))) (fun f => ?_) (fun j => ?_) (fun x f h3 h4 => ?_) (fun x => ?_) (fun x hx => ?_) (fun x hx => ?_) (fun x i c hx hi => ?_) (fun x i c hx hi => ?_) ?_ (fun z => by cases z) (fun j hj => ?_)
  · rw [adT_q0, s0.1]
  · rw [adT_r0, s0.2.2.2.2]
  · rw [adT_q2, if_neg (fun z => h3 z.2), aoT_q2, if_neg (fun z => h4 z.2), (s2 x).1]
  · rw [adT_j2, aoT_j, (s2 x).2.1]
  · rw [adT_q2, ins_new]
    by_cases q : x = b
    · rw [if_pos ⟨q, rfl⟩, if_pos q.symm, List.length_append, q]; rfl
    · rw [if_neg (fun z => q z.1), if_neg (fun z => q z.symm), List.append_nil, aoT_q2, if_neg (fun z => by have := z.2; omega), (s2 x).1]; exact (ClsG.T g x hx).2.1
  · rw [adT_q2, if_neg (fun z => by have := z.2; omega), outs_new, aoT_q2]
    by_cases q : x = a
    · rw [if_pos ⟨q, rfl⟩, if_pos (by rw [q]), List.length_append, q]; rfl
    · rw [if_neg (fun z => q z.1), if_neg (fun z => q (Option.some.inj z).symm), List.append_nil, (s2 x).1]; exact (ClsG.T g x hx).2.2.1
  · rw [ins_new] at hi
    rw [adT_r2]
    have hold : ∀ j c, (ins s x)[j]? = some c → rR t 2 x 1 j = some (pL (extE e 4 (s_C s) n lenL) (chK (fu (s_fr s) (s_C s) (some a)) c) c 0) := fun j c hj => by
      have hc := (mem_ins.mp (List.mem_of_getElem? hj)).1
      rw [hchK c hc, ext_L (by omega)]
      exact R4 x j c hx hj
    have hao : ∀ y, rR (aoT (lnT t (s_C s) (nI a) (nI b)) n (outs s a).length a) 2 y 1 = rR t 2 y 1 := fun y => by rw [aoT_r2, if_neg (fun z => by have := z.2; omega), (s2 y).2.2.2.2]
    by_cases q : x = b
    · rw [if_pos q.symm] at hi
      rw [if_pos ⟨q, rfl⟩, hao b]
      rw [q] at hi hold
      by_cases qi : i = (ins s b).length
      · rw [qi, List.getElem?_append_right (Nat.le_refl _), Nat.sub_self] at hi
        cases hi
        have e1 : chK (fu (s_fr s) (s_C s) (some a)) (s_C s) = 4 := by unfold chK; rw [fu_self]; rfl
        rw [qi, fu_self, e1, ext_Ln (by decide)]
        rfl
      · have hlt : i < (ins s b ++ [s_C s]).length := (List.getElem?_eq_some_iff.mp hi).1
        rw [List.length_append, List.length_singleton] at hlt
        rw [List.getElem?_append_left (by omega)] at hi
        rw [fu_ne _ _ qi]
        exact hold i c hi
    · rw [if_neg (fun z => q z.symm), List.append_nil] at hi
      rw [if_neg (fun z => q z.1), hao x]
      exact hold i c hi
  · rw [outs_new] at hi
    rw [adT_r2, if_neg (fun z => by have := z.2; omega), aoT_r2]
    have hold : ∀ j c, (outs s x)[j]? = some c → rR t 2 x 2 j = some (pL (extE e 4 (s_C s) n lenL) 4 c 0) := fun j c hj => by
      have hc := (mem_outs.mp (List.mem_of_getElem? hj)).1
      rw [ext_L (by omega)]
      exact R5 x j c hx hj
    by_cases q : x = a
    · rw [if_pos (by rw [q])] at hi
      rw [if_pos ⟨q, rfl⟩, (s2 a).2.2.2.2]
      rw [q] at hi hold
      by_cases qi : i = (outs s a).length
      · rw [qi, List.getElem?_append_right (Nat.le_refl _), Nat.sub_self] at hi
        cases hi
        rw [qi, fu_self, ext_Ln (by decide)]
        rfl
      · have hlt : i < (outs s a ++ [s_C s]).length := (List.getElem?_eq_some_iff.mp hi).1
        rw [List.length_append, List.length_singleton] at hlt
        rw [List.getElem?_append_left (by omega)] at hi
        rw [fu_ne _ _ qi]
        exact hold i c hi
    · rw [if_neg (fun z => q (Option.some.inj z).symm), List.append_nil] at hi
      rw [if_neg (fun z => q z.1), (s2 x).2.2.2.2]
      exact hold i c hi
  · refine ⟨?_, ?_, ?_, ?_⟩
    · rw [hnew, lnT_q]; rfl
    · rw [hnew, lnT_q]; rfl
    · rw [hnew, lnT_q]; rfl
    · rw [hnew, lnT_q]; rfl
  · refine ⟨hL_nil _ _ _, hL_nil _ _ _, ?_, by decide⟩
    rw [hnew, lnT_q]; rfl
theorem fB_channel_l (g : Cls e t s) (w : Wf s) (hF : FrC s) (hf : FE e n) (hn : NE e 4 (s_C s)) (h6 : KE e) (hC : s_C s < 16) (htl : s_tol s = false) {a b : Nat} (ha : a < s_N s) (hb : b < s_N s) (hin : hasIn s a = true) (hre : reachS s b a = false) : ∃ t', fB_channel (pv e t) n (pL e 0 0 0) (nI a) (nI b) = some (.inl (some (.int (nI (s_C s)))), pv (extE e 4 (s_C s) n lenL) t', n + 3) ∧ Cls (extE e 4 (s_C s) n lenL) t' (channelS s (some a) b) ∧ Fr PC t t' := by
  have hN8 := w.N8
  have o0 := ClsG.o0 g
  have hni := ins_lt w b
  have hna := ins_lt w a
  have hno := outs_lt w a
  obtain ⟨b6, b7, b8, b9⟩ := ClsG.B g
  rw [htl] at b9
  have o2a := ClsG.o2 g ha
  have o0' : o0K (extE e 4 (s_C s) n lenL) 0 (s_N s) := ext_oKo hf hn (by omega) o0
  have o2' : o2K (extE e 4 (s_C s) n lenL) b 0 := ext_oKo hf hn (by omega) (ClsG.o2 g hb)
  have o2a' : o2K (extE e 4 (s_C s) n lenL) a 0 := ext_oKo hf hn (by omega) o2a
  have o4' : o4K (extE e 4 (s_C s) n lenL) (s_C s) 0 := ext_oK o0.1 hf hn
  have hL0 : pL (extE e 4 (s_C s) n lenL) 0 0 0 = pL e 0 0 0 := ext_L (by omega) 0
  have hL2 : pL (extE e 4 (s_C s) n lenL) 2 b 0 = pL e 2 b 0 := ext_L (by omega) 0
  have hL2a : pL (extE e 4 (s_C s) n lenL) 2 a 0 = pL e 2 a 0 := ext_L (by omega) 0
  have hL4 : pL (extE e 4 (s_C s) n lenL) 4 (s_C s) 0 = n := by rw [ext_Ln (by decide)]; rfl
  have hob := b4 (t := lnT t (s_C s) (nI a) (nI b)) o4'
  rw [hL4] at hob
  have hao := fT_addOut_eq (n' := n + 3) o2a' hob (no := (outs s a).length) (by rw [(lnT_same (k := 2) (i := a) (by omega)).1]; exact (ClsG.T g a ha).2.2.1) (by omega)
  have had := fB_addChannel_eq (n := n + 3) (t := aoT (lnT t (s_C s) (nI a) (nI b)) n (outs s a).length a) o0' o2' (a := n) (C := s_C s) (ni := (ins s b).length) (fun t => ⟨_, _, by have := bc4 (t := t) o4'; rw [hL4] at this; exact this⟩) (by rw [(aoT_same (k := 0) (i := 0) (by omega)).1, (lnT_same (k := 0) (i := 0) (by omega)).1]; exact b6) hC (by rw [aoT_q2, if_neg (fun z => by have := z.2; omega), (lnT_same (k := 2) (i := b) (by omega)).1]; exact (ClsG.T g b hb).2.1) (by omega)
  have hlead := fB_leadsOnTo_eq (n := n) g w hb ha
  rw [hre] at hlead
  have hne : ¬ (ins s a).length = 0 := fun z => by rw [(hasIn_len s a).mpr z] at hin; cases hin
  refine ⟨_, ?_, g.newLine w hF hf hn ha hb, ?_⟩
  · rw [hL0, hL2] at had
    rw [hL2a] at hao
    unfold fB_channel fB_channel_20
    rw [b0 o0, Option.bind_some, fB_taskAt_g g w hb, zcR_s, if_neg (by rw [nI_eqm1 (by omega)]; exact id), b0 o0, Option.bind_some, fB_taskAt_g g w ha, zcR_s, f0_9 o0, Option.bind_some, b9, b2i_f, if_pos rfl, f0_6 o0, Option.bind_some, b6, if_pos (by rw [show (16 : Int32) = nI 16 from rfl, nI_ltI (by omega) (by decide)]; exact hC), if_neg (by intro z; cases z), f2_3 o2a, Option.bind_some, (ClsG.T g a ha).2.1, if_neg (by rw [nI_eq0 (by omega)]; exact hne), b0 o0, Option.bind_some, hlead, zcI_s, b2i_f, if_pos rfl, znw_eq, fL_init_eq, zdV_s, new_line hf hn h6]
    rw [← hL2a, b2 o2a', Option.bind_some, hL2a]
    show zcV (fT_addOut (pv (extE e 4 (s_C s) n lenL) (lnT t (s_C s) (nI a) (nI b))) (n + 3) (pL e 2 a 0) (some n)) _ = _
    rw [hao, zcV_s, ← hL0, b0 o0', Option.bind_some, hL0]
    show zcI (fB_addChannel (pv (extE e 4 (s_C s) n lenL) (aoT (lnT t (s_C s) (nI a) (nI b)) n (outs s a).length a)) (n + 3) (pL e 0 0 0) (some n) (some (pL e 2 b 0))) _ = _
    rw [had, zcI_s]
    rfl
  · intro k i h
    exact ((lnT_same (fun z => h (by show k ≤ 5; omega))).trans (aoT_same (fun z => h (by show k ≤ 5; omega)))).trans (adT_same (fun z => h (by show k ≤ 5; omega)) (fun z => h (by show k ≤ 5; omega)))
end PO
