/-! the class: putOut, letGo, keepAndAck, stopMark -/
theorem u_held_held (s : zSt) (a b : Nat → Option Nat) : u_held (u_held s a) b = u_held s b := rfl
theorem fu2_self {α : Type} (f : Nat → Nat → α) (m x : Nat) (v : α) : fu2 f m x v m = fu (f m) x v := by
  funext j
  show (if m = m ∧ j = x then v else f m j) = if j = x then v else f m j
  by_cases q : j = x
  · rw [if_pos ⟨rfl, q⟩, if_pos q]
  · rw [if_neg (fun z => q z.2), if_neg q]
theorem fu2_ne {α : Type} (f : Nat → Nat → α) {m j : Nat} (x : Nat) (v : α) (h : j ≠ m) : fu2 f m x v j = f j := by
  funext i
  exact if_neg (fun z => h z.1)
theorem outs_nodup (s : zSt) (x : Nat) : (outs s x).Nodup := List.Nodup.sublist (List.filter_sublist) (List.nodup_range)
theorem ins_nodup (s : zSt) (x : Nat) : (ins s x).Nodup := List.Nodup.sublist (List.filter_sublist) (List.nodup_range)
theorem not_mem_app {l p r : List Nat} {c : Nat} (h : l = p ++ c :: r) (hn : l.Nodup) : c ∉ p := by
  rw [h] at hn
  intro hc
  exact (List.nodup_append.mp hn).2.2 c hc c List.mem_cons_self rfl
section PO
variable {e : pE} {t t' : pS} {s : zSt} {n : Nat} {Mf : Nat → Nat} {due : Nat → List Nat}
theorem ClsG.cg (g : ClsG e t s Mf due) {Mf' : Nat → Nat} {due' : Nat → List Nat} (h : ∀ c, c < s_C s → s_fr s c = none → Mf' c = Mf c ∧ due' c = due c) : ClsG e t s Mf' due' := by
  obtain ⟨h1, h2, h3, h4, h5, h6, h7, h8, h9⟩ := g
  refine ⟨h1, h2, h3, h4, h5, h6, fun c hc hf => ?_, h8, h9⟩
  rw [(h c hc hf).1, (h c hc hf).2]
  exact h7 c hc hf
set_option maxHeartbeats 2000000 in
theorem fT_putOut_3_eq (w : Wf s) {x k : Nat} (hx : x < s_N s) (v : Int64) (hq : ∀ c, c ∈ outs s x → (s_q s c).length < 9) : ∀ (r p : List Nat) (Q : Nat → List (Nat × Int64)) (t : pS) (f : Nat), outs s x = p ++ r → r.length < f → (∀ c, Q c = if c ∈ p then s_q s c ++ [(k, v)] else s_q s c) → ClsG e t (u_q s Q) Mf due → ∃ t', fT_putOut_3 f (pv e t) n (pL e 2 x 0) (nI k) v (nI p.length) = some (.inl none, pv e t', n) ∧ ClsG e t' (giveS s x k v) Mf due ∧ Fr PC t t' := by
  have hl16 := outs_le w x
  intro r
  induction r with
  | nil =>
    intro p Q t f hp hf hQ g
    obtain ⟨f, rfl⟩ : ∃ g, f = g + 1 := ⟨f - 1, by omega⟩
    have o := g.o2 (x := x) hx
    have h4 := (g.T x hx).2.2.1
    rw [d_outs_q] at h4
    have hl : (outs s x).length = p.length := by rw [hp, List.append_nil]
    have q : (outs s x).length ≤ p.length := by omega
    unfold fT_putOut_3
    simp (disch := first | assumption | omega | exact b2i_01 _ | exact Or.inl rfl | exact Or.inr rfl) only [b2 o, f2_0 o, p2_0 o, f2_1 o, f2_2 o, f2_3 o, p2_3 o, f2_4 o, p2_4 o, f2_5 o, p2_5 o, f2_6 o, p2_6 o, f2_7 o, p2_7 o, f2_8 o, p2_8 o, g2_1 o, a2_1 o, g2_2 o, a2_2 o, rI_uI, rI_uJ, rI_uR, rI_wI, rI_wJ, rJ_uJ, rJ_uI, rJ_uR, rJ_wI, rJ_wJ, rR_uR, rR_uI, rR_uJ, rR_wI, rR_wJ, qI_wI, qI_wJ, qI_uI, qI_uJ, qI_uR, qJ_wJ, qJ_wI, qJ_uI, qJ_uJ, qJ_uR, Option.bind_some, zcV_s, zcI_s, zcL_s, zrI, zrV, zrL, nI_mul8, nI_mul16, nI_mul200, nI_1, eq_self, Nat.reduceEqDiff, and_true, true_and, and_false, false_and, and_self, ite_true, ite_false, ↓reduceIte, Nat.add_zero, if_true, if_false, b2i_t, b2i_f, o2i_s, o2i_n, zdI_s, zdV_s, zdL_s, zcR_s, zcV_x, zcI_x, zcL_x, zcR_x, zrR_s, zth_s, nI_leI, nI_ltI, nI_eq, nI_eq0, nI_eqm1, b2i_eq0, h4, q]
    refine ⟨t, rfl, ?_, Fr.refl _ _⟩
    have e1 : Q = fun c => if c < s_C s ∧ s_fr s c = some x then s_q s c ++ [(k, v)] else s_q s c := by
      funext c
      rw [hQ c]
      rw [List.append_nil] at hp
      by_cases q : c ∈ p
      · rw [if_pos q, if_pos (mem_outs.mp (by rw [hp]; exact q))]
      · rw [if_neg q, if_neg (fun z => q (by rw [← hp]; exact mem_outs.mpr z))]
    rw [e1] at g
    exact g
  | cons c r ih =>
    intro p Q t f hp hf hQ g
    obtain ⟨f, rfl⟩ : ∃ g, f = g + 1 := ⟨f - 1, by omega⟩
    rw [List.length_cons] at hf
    have o := g.o2 (x := x) hx
    have h4 := (g.T x hx).2.2.1
    rw [d_outs_q] at h4
    have hl : (outs s x).length = p.length + (r.length + 1) := by rw [hp, List.length_append, List.length_cons]
    have q : ¬ (outs s x).length ≤ p.length := by omega
    obtain ⟨hc, hf2⟩ := mem_outs.mp (mem_of_app hp)
    have hnp := not_mem_app hp (outs_nodup s x)
    have hQc : Q c = s_q s c := by rw [hQ c, if_neg hnp]
    have o4 := g.o4 (c := c) (k := x) hc hf2
    have hL := g.L c x hc hf2
    rw [su_q, hQc] at hL
    obtain ⟨t1, h1, L1, F1, F13⟩ := fL_put_eq (n := n) o4 hL (hq c (mem_of_app hp)) k v
    have g1 := g.uq F1 F13 L1
    rw [u_q_q, su_q] at g1
    obtain ⟨t2, h2, g2, F2⟩ := ih (p ++ [c]) _ t1 f (by rw [hp, List.append_assoc]; rfl) (by omega) (fun j => by
      by_cases q : j = c
      · rw [q, fu_self, if_pos (by simp)]
      · rw [fu_ne _ _ q, hQ j]
        by_cases q2 : j ∈ p
        · rw [if_pos q2, if_pos (List.mem_append_left _ q2)]
        · rw [if_neg q2, if_neg (by simp [q2, q])]) g1
    rw [List.length_append, List.length_singleton] at h2
    have hrp := g.rp (x := x) (i := p.length) (c := c) hx (by rw [d_outs_q]; exact getE hp)
    refine ⟨t2, ?_, g2, (F1.c (by decide)).trans F2⟩
    rw [← h2]
    generalize hR : fT_putOut_3 f = R
    unfold fT_putOut_3
    rw [hR]
    simp (disch := first | assumption | omega | exact b2i_01 _ | exact Or.inl rfl | exact Or.inr rfl) only [b2 o, f2_0 o, p2_0 o, f2_1 o, f2_2 o, f2_3 o, p2_3 o, f2_4 o, p2_4 o, f2_5 o, p2_5 o, f2_6 o, p2_6 o, f2_7 o, p2_7 o, f2_8 o, p2_8 o, g2_1 o, a2_1 o, g2_2 o, a2_2 o, b4 o4, bc4 o4, f4_0 o4, p4_0 o4, f4_1 o4, p4_1 o4, f4_2 o4, p4_2 o4, f4_3 o4, p4_3 o4, f4_4 o4, f4_5 o4, f4_6 o4, p4_6 o4, fc4_0 o4, pc4_0 o4, fc4_1 o4, pc4_1 o4, fc4_2 o4, pc4_2 o4, fc4_3 o4, pc4_3 o4, g4_1 o4, z4_1 o4, a4_1 o4, s4_1 o4, g4_2 o4, z4_2 o4, a4_2 o4, s4_2 o4, cp4_1 o4, cp4_2 o4, rI_uI, rI_uJ, rI_uR, rI_wI, rI_wJ, rJ_uJ, rJ_uI, rJ_uR, rJ_wI, rJ_wJ, rR_uR, rR_uI, rR_uJ, rR_wI, rR_wJ, qI_wI, qI_wJ, qI_uI, qI_uJ, qI_uR, qJ_wJ, qJ_wI, qJ_uI, qJ_uJ, qJ_uR, Option.bind_some, zcV_s, zcI_s, zcL_s, zrI, zrV, zrL, nI_mul8, nI_mul16, nI_mul200, nI_1, eq_self, Nat.reduceEqDiff, and_true, true_and, and_false, false_and, and_self, ite_true, ite_false, ↓reduceIte, Nat.add_zero, if_true, if_false, b2i_t, b2i_f, o2i_s, o2i_n, zdI_s, zdV_s, zdL_s, zcR_s, zcV_x, zcI_x, zcL_x, zcR_x, zrR_s, zth_s, nI_leI, nI_ltI, nI_eq, nI_eq0, nI_eqm1, b2i_eq0, h4, q, hrp, h1]
theorem fT_putOut_eq (g : ClsG e t s Mf due) (w : Wf s) {x k : Nat} (hx : x < s_N s) (v : Int64) (hq : ∀ c, c ∈ outs s x → (s_q s c).length < 9) : ∃ t', fT_putOut (pv e t) n (pL e 2 x 0) (nI k) v = some (.inl none, pv e t', n) ∧ ClsG e t' (giveS s x k v) Mf due ∧ Fr PC t t' := by
  unfold fT_putOut
  exact fT_putOut_3_eq (n := n) w hx v hq (outs s x) [] (s_q s) t zF rfl (zF_big (by have := outs_le w x; omega)) (fun c => by simp) (by rw [uu_q]; exact g)
set_option maxHeartbeats 2000000 in
theorem fT_letGo_2_eq (w : Wf s) {x : Nat} (hx : x < s_N s) : ∀ (r p : List Nat) (H : Nat → Option Nat) (t : pS) (f : Nat), ins s x = p ++ r → r.length < f → (∀ c, H c = if c ∈ p then none else s_held s c) → ClsG e t (u_held s H) Mf due → ∃ t', fT_letGo_2 f (pv e t) n (pL e 2 x 0) (nI p.length) = some (.inl none, pv e t', n) ∧ ClsG e t' (letGoS s x (s_C s)) Mf due ∧ Fr PC t t' := by
  have hl16 := ins_le w x
  intro r
  induction r with
  | nil =>
    intro p H t f hp hf hH g
    obtain ⟨f, rfl⟩ : ∃ g, f = g + 1 := ⟨f - 1, by omega⟩
    have o := g.o2 (x := x) hx
    have h3 := (g.T x hx).2.1
    rw [d_ins_held] at h3
    have hl : (ins s x).length = p.length := by rw [hp, List.append_nil]
    have q : (ins s x).length ≤ p.length := by omega
    unfold fT_letGo_2
    simp (disch := first | assumption | omega | exact b2i_01 _ | exact Or.inl rfl | exact Or.inr rfl) only [b2 o, f2_0 o, p2_0 o, f2_1 o, f2_2 o, f2_3 o, p2_3 o, f2_4 o, p2_4 o, f2_5 o, p2_5 o, f2_6 o, p2_6 o, f2_7 o, p2_7 o, f2_8 o, p2_8 o, g2_1 o, a2_1 o, g2_2 o, a2_2 o, rI_uI, rI_uJ, rI_uR, rI_wI, rI_wJ, rJ_uJ, rJ_uI, rJ_uR, rJ_wI, rJ_wJ, rR_uR, rR_uI, rR_uJ, rR_wI, rR_wJ, qI_wI, qI_wJ, qI_uI, qI_uJ, qI_uR, qJ_wJ, qJ_wI, qJ_uI, qJ_uJ, qJ_uR, Option.bind_some, zcV_s, zcI_s, zcL_s, zrI, zrV, zrL, nI_mul8, nI_mul16, nI_mul200, nI_1, eq_self, Nat.reduceEqDiff, and_true, true_and, and_false, false_and, and_self, ite_true, ite_false, ↓reduceIte, Nat.add_zero, if_true, if_false, b2i_t, b2i_f, o2i_s, o2i_n, zdI_s, zdV_s, zdL_s, zcR_s, zcV_x, zcI_x, zcL_x, zcR_x, zrR_s, zth_s, nI_leI, nI_ltI, nI_eq, nI_eq0, nI_eqm1, b2i_eq0, h3, q]
    refine ⟨t, rfl, ?_, Fr.refl _ _⟩
    have e1 : H = fun j => if j < s_C s ∧ s_to s j = x then none else s_held s j := by
      funext c
      rw [hH c]
      rw [List.append_nil] at hp
      by_cases q : c ∈ p
      · rw [if_pos q, if_pos (mem_ins.mp (by rw [hp]; exact q))]
      · rw [if_neg q, if_neg (fun z => q (by rw [← hp]; exact mem_ins.mpr z))]
    rw [e1] at g
    exact g
  | cons c r ih =>
    intro p H t f hp hf hH g
    obtain ⟨f, rfl⟩ : ∃ g, f = g + 1 := ⟨f - 1, by omega⟩
    rw [List.length_cons] at hf
    have o := g.o2 (x := x) hx
    have h3 := (g.T x hx).2.1
    rw [d_ins_held] at h3
    have hl : (ins s x).length = p.length + (r.length + 1) := by rw [hp, List.length_append, List.length_cons]
    have q : ¬ (ins s x).length ≤ p.length := by omega
    have hc := (mem_ins.mp (mem_of_app hp)).1
    have g1 := g.uheld (c := c) hc none
    rw [u_held_held, su_held, y_fr_held, o2i_n] at g1
    obtain ⟨t2, h2, g2, F2⟩ := ih (p ++ [c]) _ _ f (by rw [hp, List.append_assoc]; rfl) (by omega) (fun j => by
      by_cases q : j = c
      · rw [q, fu_self, if_pos (by simp)]
      · rw [fu_ne _ _ q, hH j]
        by_cases q2 : j ∈ p
        · rw [if_pos q2, if_pos (List.mem_append_left _ q2)]
        · rw [if_neg q2, if_neg (by simp [q2, q])]) g1
    rw [List.length_append, List.length_singleton] at h2
    have hri := g.ri (x := x) (i := p.length) (c := c) hx (by rw [d_ins_held]; exact getE hp)
    rw [y_fr_held] at hri
    have hp2 := ch_p2 (t := t) g.E (c := c) hc (-1)
    rw [y_fr_held] at hp2
    have hk := chK_34 (s_fr s) c
    refine ⟨t2, ?_, g2, ((fr_p3 (k := chK (s_fr s) c) (i := c)).c (by omega)).trans F2⟩
    rw [← h2]
    generalize hR : fT_letGo_2 f = R
    unfold fT_letGo_2
    rw [hR]
    simp (disch := first | assumption | omega | exact b2i_01 _ | exact Or.inl rfl | exact Or.inr rfl) only [b2 o, f2_0 o, p2_0 o, f2_1 o, f2_2 o, f2_3 o, p2_3 o, f2_4 o, p2_4 o, f2_5 o, p2_5 o, f2_6 o, p2_6 o, f2_7 o, p2_7 o, f2_8 o, p2_8 o, g2_1 o, a2_1 o, g2_2 o, a2_2 o, rI_uI, rI_uJ, rI_uR, rI_wI, rI_wJ, rJ_uJ, rJ_uI, rJ_uR, rJ_wI, rJ_wJ, rR_uR, rR_uI, rR_uJ, rR_wI, rR_wJ, qI_wI, qI_wJ, qI_uI, qI_uJ, qI_uR, qJ_wJ, qJ_wI, qJ_uI, qJ_uJ, qJ_uR, Option.bind_some, zcV_s, zcI_s, zcL_s, zrI, zrV, zrL, nI_mul8, nI_mul16, nI_mul200, nI_1, eq_self, Nat.reduceEqDiff, and_true, true_and, and_false, false_and, and_self, ite_true, ite_false, ↓reduceIte, Nat.add_zero, if_true, if_false, b2i_t, b2i_f, o2i_s, o2i_n, zdI_s, zdV_s, zdL_s, zcR_s, zcV_x, zcI_x, zcL_x, zcR_x, zrR_s, zth_s, nI_leI, nI_ltI, nI_eq, nI_eq0, nI_eqm1, b2i_eq0, h3, q, hri, hp2]
theorem fT_letGo_eq (g : ClsG e t s Mf due) (w : Wf s) {x : Nat} (hx : x < s_N s) : ∃ t', fT_letGo (pv e t) n (pL e 2 x 0) = some (.inl none, pv e t', n) ∧ ClsG e t' (letGoS s x (s_C s)) Mf due ∧ Fr PC t t' := by
  unfold fT_letGo
  exact fT_letGo_2_eq (n := n) w hx (ins s x) [] (s_held s) t zF rfl (zF_big (by have := ins_le w x; omega)) (fun c => by simp) (by rw [uu_held]; exact g)
set_option maxHeartbeats 2000000 in
theorem fM_keepStateOf_eq (g : ClsG e t s Mf due) (w : Wf s) {m x : Nat} (hm : m < s_M s) (hx : x < s_N s) : ∃ t', fM_keepStateOf (pv e t) n (pL e 5 m 0) (some (pL e 2 x 0)) = some (.inl none, pv e t', n) ∧ ClsG e t' (u_kRows (u_kSum (u_kEnd (u_kept s (fu2 (s_kept s) m x true)) (fu2 (s_kEnd s) m x (s_ended s x))) (fu2 (s_kSum s) m x (s_sum s x))) (fu2 (s_kRows s) m x (s_rows s x))) Mf due ∧ Fr PC t t' := by
  have o := g.o5 hm
  have o2 := g.o2 hx
  obtain ⟨a0, a1, a2, a3, a4, a5, a6⟩ := g.T x hx
  obtain ⟨mm0, mm1, mm2, mm3, mm4, mm5, mm6, mm7, mm8⟩ := g.M m hm
  have hN8 := w.N8
  have hN : s_N s < 2 ^ 31 := by omega
  have q0 : ¬ nI x < 0 := nI_nn (by omega)
  have q1 : ¬ s_N s ≤ x := by omega
  unfold fM_keepStateOf
  simp (disch := first | assumption | omega | exact b2i_01 _ | exact Or.inl rfl | exact Or.inr rfl) only [b5 o, f5_0 o, p5_0 o, f5_1 o, f5_2 o, f5_3 o, f5_4 o, f5_5 o, f5_6 o, f5_7 o, p5_7 o, f5_8 o, p5_8 o, a5_1 o, a5_2 o, a5_3 o, a5_4 o, a5_5 o, a5_6 o, g5_1 o hN, s5_1 o hN, g5_2 o hN, s5_2 o hN, g5_3 o hN, s5_3 o hN, g5_4 o hN, s5_4 o hN, g5_5 o hN, s5_5 o hN, g5_6 o hN, s5_6 o hN, b2 o2, f2_0 o2, p2_0 o2, f2_1 o2, f2_2 o2, f2_3 o2, p2_3 o2, f2_4 o2, p2_4 o2, f2_5 o2, p2_5 o2, f2_6 o2, p2_6 o2, f2_7 o2, p2_7 o2, f2_8 o2, p2_8 o2, g2_1 o2, a2_1 o2, g2_2 o2, a2_2 o2, rI_uI, rI_uJ, rI_uR, rI_wI, rI_wJ, rJ_uJ, rJ_uI, rJ_uR, rJ_wI, rJ_wJ, rR_uR, rR_uI, rR_uJ, rR_wI, rR_wJ, qI_wI, qI_wJ, qI_uI, qI_uJ, qI_uR, qJ_wJ, qJ_wI, qJ_uI, qJ_uJ, qJ_uR, Option.bind_some, zcV_s, zcI_s, zcL_s, zrI, zrV, zrL, nI_mul8, nI_mul16, nI_mul200, nI_1, eq_self, Nat.reduceEqDiff, and_true, true_and, and_false, false_and, and_self, ite_true, ite_false, ↓reduceIte, Nat.add_zero, if_true, if_false, b2i_t, b2i_f, o2i_s, o2i_n, zdI_s, zdV_s, zdL_s, zcR_s, zcV_x, zcI_x, zcL_x, zcR_x, zrR_s, zth_s, nI_leI, nI_ltI, nI_eq, nI_eq0, nI_eqm1, b2i_eq0, a0, a4, a5, a6, q0, q1, upd_fu, updL_fu]
  refine ⟨_, rfl, g.umark (m := m) (Fr.uI (po 5 m) (Fr.uI (po 5 m) (Fr.uJ (po 5 m) (Fr.uI (po 5 m) (Fr.refl _ _))))) (fun e t Mf due => by unfold ClsG; simp only [y_N_kept, y_C_kept, y_fr_kept, y_to_kept, y_tol_kept, y_sum_kept, y_rows_kept, y_ended_kept, y_latest_kept, y_q_kept, y_log_kept, y_fin_kept, y_stand_kept, y_over_kept, y_held_kept, y_M_kept, y_cond_kept, y_pos_kept, y_came_kept, y_kEnd_kept, y_kSum_kept, y_kRows_kept, y_fails_kept, y_taken_kept, y_acks_kept, su_kept, d_ins_kept, d_outs_kept, d_hasIn_kept, d_dueS_kept, d_look_kept, d_begunS_kept, d_countS_kept, d_credit_kept, d_barS_kept, d_nextS_kept, d_heldS_kept, y_N_kEnd, y_C_kEnd, y_fr_kEnd, y_to_kEnd, y_tol_kEnd, y_sum_kEnd, y_rows_kEnd, y_ended_kEnd, y_latest_kEnd, y_q_kEnd, y_log_kEnd, y_fin_kEnd, y_stand_kEnd, y_over_kEnd, y_held_kEnd, y_M_kEnd, y_cond_kEnd, y_pos_kEnd, y_came_kEnd, y_kept_kEnd, y_kSum_kEnd, y_kRows_kEnd, y_fails_kEnd, y_taken_kEnd, y_acks_kEnd, su_kEnd, d_ins_kEnd, d_outs_kEnd, d_hasIn_kEnd, d_dueS_kEnd, d_look_kEnd, d_begunS_kEnd, d_countS_kEnd, d_credit_kEnd, d_barS_kEnd, d_nextS_kEnd, d_heldS_kEnd, d_NKs_kEnd, y_N_kSum, y_C_kSum, y_fr_kSum, y_to_kSum, y_tol_kSum, y_sum_kSum, y_rows_kSum, y_ended_kSum, y_latest_kSum, y_q_kSum, y_log_kSum, y_fin_kSum, y_stand_kSum, y_over_kSum, y_held_kSum, y_M_kSum, y_cond_kSum, y_pos_kSum, y_came_kSum, y_kept_kSum, y_kEnd_kSum, y_kRows_kSum, y_fails_kSum, y_taken_kSum, y_acks_kSum, su_kSum, d_ins_kSum, d_outs_kSum, d_hasIn_kSum, d_dueS_kSum, d_look_kSum, d_begunS_kSum, d_countS_kSum, d_credit_kSum, d_barS_kSum, d_nextS_kSum, d_heldS_kSum, d_NKs_kSum, y_N_kRows, y_C_kRows, y_fr_kRows, y_to_kRows, y_tol_kRows, y_sum_kRows, y_rows_kRows, y_ended_kRows, y_latest_kRows, y_q_kRows, y_log_kRows, y_fin_kRows, y_stand_kRows, y_over_kRows, y_held_kRows, y_M_kRows, y_cond_kRows, y_pos_kRows, y_came_kRows, y_kept_kRows, y_kEnd_kRows, y_kSum_kRows, y_fails_kRows, y_taken_kRows, y_acks_kRows, su_kRows, d_ins_kRows, d_outs_kRows, d_hasIn_kRows, d_dueS_kRows, d_look_kRows, d_begunS_kRows, d_countS_kRows, d_credit_kRows, d_barS_kRows, d_nextS_kRows, d_heldS_kRows, d_NKs_kRows]) (fun j hj => ?_) ?_, (Fr.uI (po 5 m) (Fr.uI (po 5 m) (Fr.uJ (po 5 m) (Fr.uI (po 5 m) (Fr.refl _ _))))).c (by decide)⟩
  · simp only [y_N_kept, y_C_kept, y_fr_kept, y_to_kept, y_tol_kept, y_sum_kept, y_rows_kept, y_ended_kept, y_latest_kept, y_q_kept, y_log_kept, y_fin_kept, y_stand_kept, y_over_kept, y_held_kept, y_M_kept, y_cond_kept, y_pos_kept, y_came_kept, y_kEnd_kept, y_kSum_kept, y_kRows_kept, y_fails_kept, y_taken_kept, y_acks_kept, su_kept, d_ins_kept, d_outs_kept, d_hasIn_kept, d_dueS_kept, d_look_kept, d_begunS_kept, d_countS_kept, d_credit_kept, d_barS_kept, d_nextS_kept, d_heldS_kept, y_N_kEnd, y_C_kEnd, y_fr_kEnd, y_to_kEnd, y_tol_kEnd, y_sum_kEnd, y_rows_kEnd, y_ended_kEnd, y_latest_kEnd, y_q_kEnd, y_log_kEnd, y_fin_kEnd, y_stand_kEnd, y_over_kEnd, y_held_kEnd, y_M_kEnd, y_cond_kEnd, y_pos_kEnd, y_came_kEnd, y_kept_kEnd, y_kSum_kEnd, y_kRows_kEnd, y_fails_kEnd, y_taken_kEnd, y_acks_kEnd, su_kEnd, d_ins_kEnd, d_outs_kEnd, d_hasIn_kEnd, d_dueS_kEnd, d_look_kEnd, d_begunS_kEnd, d_countS_kEnd, d_credit_kEnd, d_barS_kEnd, d_nextS_kEnd, d_heldS_kEnd, d_NKs_kEnd, y_N_kSum, y_C_kSum, y_fr_kSum, y_to_kSum, y_tol_kSum, y_sum_kSum, y_rows_kSum, y_ended_kSum, y_latest_kSum, y_q_kSum, y_log_kSum, y_fin_kSum, y_stand_kSum, y_over_kSum, y_held_kSum, y_M_kSum, y_cond_kSum, y_pos_kSum, y_came_kSum, y_kept_kSum, y_kEnd_kSum, y_kRows_kSum, y_fails_kSum, y_taken_kSum, y_acks_kSum, su_kSum, d_ins_kSum, d_outs_kSum, d_hasIn_kSum, d_dueS_kSum, d_look_kSum, d_begunS_kSum, d_countS_kSum, d_credit_kSum, d_barS_kSum, d_nextS_kSum, d_heldS_kSum, d_NKs_kSum, y_N_kRows, y_C_kRows, y_fr_kRows, y_to_kRows, y_tol_kRows, y_sum_kRows, y_rows_kRows, y_ended_kRows, y_latest_kRows, y_q_kRows, y_log_kRows, y_fin_kRows, y_stand_kRows, y_over_kRows, y_held_kRows, y_M_kRows, y_cond_kRows, y_pos_kRows, y_came_kRows, y_kept_kRows, y_kEnd_kRows, y_kSum_kRows, y_fails_kRows, y_taken_kRows, y_acks_kRows, su_kRows, d_ins_kRows, d_outs_kRows, d_hasIn_kRows, d_dueS_kRows, d_look_kRows, d_begunS_kRows, d_countS_kRows, d_credit_kRows, d_barS_kRows, d_nextS_kRows, d_heldS_kRows, d_NKs_kRows]
    exact ⟨fu2_ne _ _ _ hj, (by trivial), (by trivial), fu2_ne _ _ _ hj, fu2_ne _ _ _ hj, fu2_ne _ _ _ hj, (by trivial)⟩
  · simp only [y_N_kept, y_C_kept, y_fr_kept, y_to_kept, y_tol_kept, y_sum_kept, y_rows_kept, y_ended_kept, y_latest_kept, y_q_kept, y_log_kept, y_fin_kept, y_stand_kept, y_over_kept, y_held_kept, y_M_kept, y_cond_kept, y_pos_kept, y_came_kept, y_kEnd_kept, y_kSum_kept, y_kRows_kept, y_fails_kept, y_taken_kept, y_acks_kept, su_kept, d_ins_kept, d_outs_kept, d_hasIn_kept, d_dueS_kept, d_look_kept, d_begunS_kept, d_countS_kept, d_credit_kept, d_barS_kept, d_nextS_kept, d_heldS_kept, y_N_kEnd, y_C_kEnd, y_fr_kEnd, y_to_kEnd, y_tol_kEnd, y_sum_kEnd, y_rows_kEnd, y_ended_kEnd, y_latest_kEnd, y_q_kEnd, y_log_kEnd, y_fin_kEnd, y_stand_kEnd, y_over_kEnd, y_held_kEnd, y_M_kEnd, y_cond_kEnd, y_pos_kEnd, y_came_kEnd, y_kept_kEnd, y_kSum_kEnd, y_kRows_kEnd, y_fails_kEnd, y_taken_kEnd, y_acks_kEnd, su_kEnd, d_ins_kEnd, d_outs_kEnd, d_hasIn_kEnd, d_dueS_kEnd, d_look_kEnd, d_begunS_kEnd, d_countS_kEnd, d_credit_kEnd, d_barS_kEnd, d_nextS_kEnd, d_heldS_kEnd, d_NKs_kEnd, y_N_kSum, y_C_kSum, y_fr_kSum, y_to_kSum, y_tol_kSum, y_sum_kSum, y_rows_kSum, y_ended_kSum, y_latest_kSum, y_q_kSum, y_log_kSum, y_fin_kSum, y_stand_kSum, y_over_kSum, y_held_kSum, y_M_kSum, y_cond_kSum, y_pos_kSum, y_came_kSum, y_kept_kSum, y_kEnd_kSum, y_kRows_kSum, y_fails_kSum, y_taken_kSum, y_acks_kSum, su_kSum, d_ins_kSum, d_outs_kSum, d_hasIn_kSum, d_dueS_kSum, d_look_kSum, d_begunS_kSum, d_countS_kSum, d_credit_kSum, d_barS_kSum, d_nextS_kSum, d_heldS_kSum, d_NKs_kSum, y_N_kRows, y_C_kRows, y_fr_kRows, y_to_kRows, y_tol_kRows, y_sum_kRows, y_rows_kRows, y_ended_kRows, y_latest_kRows, y_q_kRows, y_log_kRows, y_fin_kRows, y_stand_kRows, y_over_kRows, y_held_kRows, y_M_kRows, y_cond_kRows, y_pos_kRows, y_came_kRows, y_kept_kRows, y_kEnd_kRows, y_kSum_kRows, y_fails_kRows, y_taken_kRows, y_acks_kRows, su_kRows, d_ins_kRows, d_outs_kRows, d_hasIn_kRows, d_dueS_kRows, d_look_kRows, d_begunS_kRows, d_countS_kRows, d_credit_kRows, d_barS_kRows, d_nextS_kRows, d_heldS_kRows, d_NKs_kRows, fu2_self]
    unfold cMo
    simp only [rI_uI, rI_uJ, rJ_uI, rJ_uJ, qI_uI, qI_uJ, true_and, and_true, Nat.reduceEqDiff, and_false, ↓reduceIte, and_self]
    exact ⟨mm0, hI_fu b2i mm1 rfl, mm2, mm3, hI_fu (fun z => z) mm4 rfl, hI_fu (fun z => z) mm5 rfl, hI_fu b2i mm6 rfl, mm7, mm8⟩
set_option maxHeartbeats 2000000 in
theorem fB_keepAndAck_eq (g : ClsG e t s Mf due) (w : Wf s) {m x : Nat} (hm : m < s_M s) (hx : x < s_N s) (hA : (s_acks s).length < 520) : ∃ t', fB_keepAndAck (pv e t) n (pL e 0 0 0) (some (pL e 5 m 0)) (some (pL e 2 x 0)) = some (.inl none, pv e t', n) ∧ ClsG e t' (keepS s m x) Mf due ∧ Fr PC t t' := by
  obtain ⟨t1, h1, g1, F1⟩ := fM_keepStateOf_eq (n := n) g w hm hx
  have o0 := g.o0
  have o1 := g.o1
  have o5 := g.o5 hm
  have o2 := g.o2 hx
  have hN : s_N s < 2 ^ 31 := by have := w.N8; omega
  have a0 : qI t1 2 x 0 = nI x := (g1.T x hx).1
  have mm0 : qI t1 5 m 0 = nI m := (g1.M m hm).1
  have hAc : cAo t1 (s_acks s) := g1.A
  obtain ⟨t2, h2, A2, F2⟩ := fK_add_eq (n := n) o1 hAc hA m x
  refine ⟨t2, ?_, g1.uacks F2 A2, F1.trans (F2.c (by decide))⟩
  unfold fB_keepAndAck
  simp (disch := first | assumption | omega | exact b2i_01 _ | exact Or.inl rfl | exact Or.inr rfl) only [b0 o0, f0_0 o0, f0_1 o0, f0_2 o0, f0_3 o0, f0_4 o0, f0_5 o0, f0_6 o0, p0_6 o0, f0_7 o0, p0_7 o0, f0_8 o0, p0_8 o0, f0_9 o0, p0_9 o0, a0_1 o0, g0_2 o0, a0_2 o0, g0_3 o0, a0_3 o0, a0_4 o0, a0_5 o0, g0_1 o0 hN, g0_4 o0 hN, s0_4 o0 hN, g0_5 o0 hN, s0_5 o0 hN, b1 o1, f1_0 o1, f1_1 o1, f1_2 o1, p1_2 o1, f1_3 o1, p1_3 o1, g1_1 o1, a1_1 o1, s1_1 o1, g1_2 o1, a1_2 o1, s1_2 o1, b5 o5, f5_0 o5, p5_0 o5, f5_1 o5, f5_2 o5, f5_3 o5, f5_4 o5, f5_5 o5, f5_6 o5, f5_7 o5, p5_7 o5, f5_8 o5, p5_8 o5, a5_1 o5, a5_2 o5, a5_3 o5, a5_4 o5, a5_5 o5, a5_6 o5, g5_1 o5 hN, s5_1 o5 hN, g5_2 o5 hN, s5_2 o5 hN, g5_3 o5 hN, s5_3 o5 hN, g5_4 o5 hN, s5_4 o5 hN, g5_5 o5 hN, s5_5 o5 hN, g5_6 o5 hN, s5_6 o5 hN, b2 o2, f2_0 o2, p2_0 o2, f2_1 o2, f2_2 o2, f2_3 o2, p2_3 o2, f2_4 o2, p2_4 o2, f2_5 o2, p2_5 o2, f2_6 o2, p2_6 o2, f2_7 o2, p2_7 o2, f2_8 o2, p2_8 o2, g2_1 o2, a2_1 o2, g2_2 o2, a2_2 o2, rI_uI, rI_uJ, rI_uR, rI_wI, rI_wJ, rJ_uJ, rJ_uI, rJ_uR, rJ_wI, rJ_wJ, rR_uR, rR_uI, rR_uJ, rR_wI, rR_wJ, qI_wI, qI_wJ, qI_uI, qI_uJ, qI_uR, qJ_wJ, qJ_wI, qJ_uI, qJ_uJ, qJ_uR, Option.bind_some, zcV_s, zcI_s, zcL_s, zrI, zrV, zrL, nI_mul8, nI_mul16, nI_mul200, nI_1, eq_self, Nat.reduceEqDiff, and_true, true_and, and_false, false_and, and_self, ite_true, ite_false, ↓reduceIte, Nat.add_zero, if_true, if_false, b2i_t, b2i_f, o2i_s, o2i_n, zdI_s, zdV_s, zdL_s, zcR_s, zcV_x, zcI_x, zcL_x, zcR_x, zrR_s, zth_s, nI_leI, nI_ltI, nI_eq, nI_eq0, nI_eqm1, b2i_eq0, h1, a0, mm0, h2]
set_option maxHeartbeats 2000000 in
theorem fB_stopMark_17_eq (w : Wf s) {m : Nat} (hm : m < s_M s) : ∀ (d c : Nat) (t : pS) (D : Nat → List Nat) (f : Nat), c + d = s_C s → d < f → (∀ j, D j = if j < c then (due j).filter (fun z => !(z == m)) else due j) → ClsG e t (closeP s m c) Mf D → ∃ t', fB_stopMark_17 f (pv e t) n (pL e 0 0 0) (some (pL e 5 m 0)) (nI c) = some (.inl none, pv e t', n) ∧ ClsG e t' (closeP s m (s_C s)) Mf (fun j => (due j).filter fun z => !(z == m)) ∧ Fr PC t t' := by
  have hN1 := w.N1; have hN8 := w.N8; have hC := w.C; have hM := w.M; have hA := w.ackn
  intro d
  induction d with
  | zero =>
    intro c t D f hc hf hD g
    obtain ⟨f, rfl⟩ : ∃ g, f = g + 1 := ⟨f - 1, by omega⟩
    obtain rfl : c = s_C s := by omega
    have o0 := g.o0
    have hN : s_N (closeP s m (s_C s)) < 2 ^ 31 := by rw [z_closeP_N]; omega
    have h6 := g.B.1
    rw [z_closeP_C] at h6
    unfold fB_stopMark_17
    simp (disch := first | assumption | omega | exact b2i_01 _ | exact Or.inl rfl | exact Or.inr rfl) only [b0 o0, f0_0 o0, f0_1 o0, f0_2 o0, f0_3 o0, f0_4 o0, f0_5 o0, f0_6 o0, p0_6 o0, f0_7 o0, p0_7 o0, f0_8 o0, p0_8 o0, f0_9 o0, p0_9 o0, a0_1 o0, g0_2 o0, a0_2 o0, g0_3 o0, a0_3 o0, a0_4 o0, a0_5 o0, g0_1 o0 hN, g0_4 o0 hN, s0_4 o0 hN, g0_5 o0 hN, s0_5 o0 hN, rI_uI, rI_uJ, rI_uR, rI_wI, rI_wJ, rJ_uJ, rJ_uI, rJ_uR, rJ_wI, rJ_wJ, rR_uR, rR_uI, rR_uJ, rR_wI, rR_wJ, qI_wI, qI_wJ, qI_uI, qI_uJ, qI_uR, qJ_wJ, qJ_wI, qJ_uI, qJ_uJ, qJ_uR, Option.bind_some, zcV_s, zcI_s, zcL_s, zrI, zrV, zrL, nI_mul8, nI_mul16, nI_mul200, nI_1, eq_self, Nat.reduceEqDiff, and_true, true_and, and_false, false_and, and_self, ite_true, ite_false, ↓reduceIte, Nat.add_zero, if_true, if_false, b2i_t, b2i_f, o2i_s, o2i_n, zdI_s, zdV_s, zdL_s, zcR_s, zcV_x, zcI_x, zcL_x, zcR_x, zrR_s, zth_s, nI_leI, nI_ltI, nI_eq, nI_eq0, nI_eqm1, b2i_eq0, h6, Nat.le_refl]
    exact ⟨t, rfl, g.cg (fun j hj _ => by rw [z_closeP_C] at hj; rw [hD j, if_pos hj]; exact ⟨rfl, rfl⟩), Fr.refl _ _⟩
  | succ d ih =>
    intro c t D f hc hf hD g
    obtain ⟨f, rfl⟩ : ∃ g, f = g + 1 := ⟨f - 1, by omega⟩
    have q : ¬ s_C s ≤ c := by omega
    have hcC : c < s_C s := by omega
    have hcC' : c < s_C (closeP s m c) := by rw [z_closeP_C]; exact hcC
    have hmM' : m < s_M (closeP s m c) := by rw [z_closeP_M]; exact hm
    have o0 := g.o0
    have o5 := g.o5 hmM'
    have hN : s_N (closeP s m c) < 2 ^ 31 := by rw [z_closeP_N]; omega
    have h6 := g.B.1
    rw [z_closeP_C] at h6
    have r2 := g.r2 hcC'
    rw [z_closeP_fr] at r2
    have mm0 := (g.M m hmM').1
    have hDc : D c = due c := by rw [hD c, if_neg (by omega)]
    have hqc := closeP_qc s m c
    have hhc := closeP_heldc s m c
    -- the barrier is dropped
    have step1 : ∃ t1, (if s_fr s c = none then fS_dropBarrier (pv e t) n (pL e 3 c 0) (nI m) else fL_dropBarrier (pv e t) n (pL e 4 c 0) (nI m)) = some (.inl none, pv e t1, n) ∧ ClsG e t1 (u_q (closeP s m c) (fu (s_q (closeP s m c)) c ((s_q s c).filter fun z => !isB m z))) Mf (fu D c ((due c).filter fun z => !(z == m))) ∧ Fr PC t t1 := by
      cases hf2 : s_fr s c with
      | none =>
        rw [if_pos rfl]
        have hf3 : s_fr (closeP s m c) c = none := by rw [z_closeP_fr]; exact hf2
        obtain ⟨t1, h1, S1, F1, F13⟩ := fS_dropBarrier_eq (n := n) (g.o3 hcC' hf3) (g.S c hcC' hf3) (m := m) (by omega)
        rw [hDc] at S1
        have g1 := g.udue F1 F13 S1
        refine ⟨t1, h1, ?_, F1.c (by decide)⟩
        have e1 : (s_q s c).filter (fun z => !isB m z) = s_q (closeP s m c) c := by rw [hqc, w.src hcC hf2]; rfl
        rw [e1, fu_id, uu_q]
        exact g1
      | some k =>
        rw [if_neg (by intro q; cases q)]
        have hf3 : s_fr (closeP s m c) c = some k := by rw [z_closeP_fr]; exact hf2
        have hL := g.L c k hcC' hf3
        rw [hqc] at hL
        obtain ⟨t1, h1, L1, F1, F13⟩ := fL_dropBarrier_eq (n := n) (g.o4 hcC' hf3) hL (fun z hz => w.kin hz) (m := m) (by omega)
        refine ⟨t1, h1, (g.uq F1 F13 L1).cg (fun j hj hjf => ⟨rfl, ?_⟩), F1.c (by decide)⟩
        refine fu_ne _ _ (fun q => ?_)
        rw [y_fr_q, q, hf3] at hjf
        cases hjf
    obtain ⟨t1, h1, g1, F1⟩ := step1
    have hcC1 : c < s_C (u_q (closeP s m c) (fu (s_q (closeP s m c)) c ((s_q s c).filter fun z => !isB m z))) := by rw [y_C_q]; exact hcC'
    have hDn : ∀ j, fu D c ((due c).filter fun z => !(z == m)) j = if j < c + 1 then (due j).filter (fun z => !(z == m)) else due j := fun j => by
      by_cases q : j = c
      · rw [q, fu_self, if_pos (by omega)]
      · rw [fu_ne _ _ q, hD j]
        by_cases q2 : j < c
        · rw [if_pos q2, if_pos (by omega)]
        · rw [if_neg q2, if_neg (by omega)]
    have fc2 := g1.fc2 hcC1
    rw [y_fr_q, z_closeP_fr, y_held_q, hhc] at fc2
    have mm01 : qI t1 5 m 0 = nI m := (g1.M m (by rw [y_M_q]; exact hmM')).1
    have key : ∀ t2, ClsG e t2 (closeP s m (c + 1)) Mf (fu D c ((due c).filter fun z => !(z == m))) → Fr PC t t2 → ∃ t', fB_stopMark_17 f (pv e t2) n (pL e 0 0 0) (some (pL e 5 m 0)) (nI (c + 1)) = some (.inl none, pv e t', n) ∧ ClsG e t' (closeP s m (s_C s)) Mf (fun j => (due j).filter fun z => !(z == m)) ∧ Fr PC t t' := by
      intro t2 g2 F2
      obtain ⟨t3, h3, g3, F3⟩ := ih (c + 1) t2 _ f (by omega) (by omega) hDn g2
      exact ⟨t3, h3, g3, F2.trans F3⟩
    have hd := ch_d (α := zR) (t := t) (s := closeP s m c) g.E hcC' (fun a => fS_dropBarrier (pv e t) n a (nI m)) (fun a => fL_dropBarrier (pv e t) n a (nI m))
    rw [z_closeP_fr] at hd
    have hp2 := ch_p2 (t := t1) (s := closeP s m c) g.E hcC' (-1)
    rw [z_closeP_fr] at hp2
    have hk := chK_34 (s_fr s) c
    unfold fB_stopMark_17 fB_stopMark_60
    generalize fB_stopMark_17 f = R at key ⊢
    generalize fS_dropBarrier = GS at hd h1 ⊢
    generalize fL_dropBarrier = GL at hd h1 ⊢
    simp (disch := first | assumption | omega | exact b2i_01 _ | exact Or.inl rfl | exact Or.inr rfl) only [b0 o0, f0_0 o0, f0_1 o0, f0_2 o0, f0_3 o0, f0_4 o0, f0_5 o0, f0_6 o0, p0_6 o0, f0_7 o0, p0_7 o0, f0_8 o0, p0_8 o0, f0_9 o0, p0_9 o0, a0_1 o0, g0_2 o0, a0_2 o0, g0_3 o0, a0_3 o0, a0_4 o0, a0_5 o0, g0_1 o0 hN, g0_4 o0 hN, s0_4 o0 hN, g0_5 o0 hN, s0_5 o0 hN, b5 o5, f5_0 o5, p5_0 o5, f5_1 o5, f5_2 o5, f5_3 o5, f5_4 o5, f5_5 o5, f5_6 o5, f5_7 o5, p5_7 o5, f5_8 o5, p5_8 o5, a5_1 o5, a5_2 o5, a5_3 o5, a5_4 o5, a5_5 o5, a5_6 o5, g5_1 o5 hN, s5_1 o5 hN, g5_2 o5 hN, s5_2 o5 hN, g5_3 o5 hN, s5_3 o5 hN, g5_4 o5 hN, s5_4 o5 hN, g5_5 o5 hN, s5_5 o5 hN, g5_6 o5 hN, s5_6 o5 hN, rI_uI, rI_uJ, rI_uR, rI_wI, rI_wJ, rJ_uJ, rJ_uI, rJ_uR, rJ_wI, rJ_wJ, rR_uR, rR_uI, rR_uJ, rR_wI, rR_wJ, qI_wI, qI_wJ, qI_uI, qI_uJ, qI_uR, qJ_wJ, qJ_wI, qJ_uI, qJ_uJ, qJ_uR, Option.bind_some, zcV_s, zcI_s, zcL_s, zrI, zrV, zrL, nI_mul8, nI_mul16, nI_mul200, nI_1, eq_self, Nat.reduceEqDiff, and_true, true_and, and_false, false_and, and_self, ite_true, ite_false, ↓reduceIte, Nat.add_zero, if_true, if_false, b2i_t, b2i_f, o2i_s, o2i_n, zdI_s, zdV_s, zdL_s, zcR_s, zcV_x, zcI_x, zcL_x, zcR_x, zrR_s, zth_s, nI_leI, nI_ltI, nI_eq, nI_eq0, nI_eqm1, b2i_eq0, h6, q, r2, mm0]
    rw [hd (fun a => zdV a _), h1]
    simp (disch := first | assumption | omega | exact b2i_01 _ | exact Or.inl rfl | exact Or.inr rfl) only [b0 o0, f0_0 o0, f0_1 o0, f0_2 o0, f0_3 o0, f0_4 o0, f0_5 o0, f0_6 o0, p0_6 o0, f0_7 o0, p0_7 o0, f0_8 o0, p0_8 o0, f0_9 o0, p0_9 o0, a0_1 o0, g0_2 o0, a0_2 o0, g0_3 o0, a0_3 o0, a0_4 o0, a0_5 o0, g0_1 o0 hN, g0_4 o0 hN, s0_4 o0 hN, g0_5 o0 hN, s0_5 o0 hN, b5 o5, f5_0 o5, p5_0 o5, f5_1 o5, f5_2 o5, f5_3 o5, f5_4 o5, f5_5 o5, f5_6 o5, f5_7 o5, p5_7 o5, f5_8 o5, p5_8 o5, a5_1 o5, a5_2 o5, a5_3 o5, a5_4 o5, a5_5 o5, a5_6 o5, g5_1 o5 hN, s5_1 o5 hN, g5_2 o5 hN, s5_2 o5 hN, g5_3 o5 hN, s5_3 o5 hN, g5_4 o5 hN, s5_4 o5 hN, g5_5 o5 hN, s5_5 o5 hN, g5_6 o5 hN, s5_6 o5 hN, rI_uI, rI_uJ, rI_uR, rI_wI, rI_wJ, rJ_uJ, rJ_uI, rJ_uR, rJ_wI, rJ_wJ, rR_uR, rR_uI, rR_uJ, rR_wI, rR_wJ, qI_wI, qI_wJ, qI_uI, qI_uJ, qI_uR, qJ_wJ, qJ_wI, qJ_uI, qJ_uJ, qJ_uR, Option.bind_some, zcV_s, zcI_s, zcL_s, zrI, zrV, zrL, nI_mul8, nI_mul16, nI_mul200, nI_1, eq_self, Nat.reduceEqDiff, and_true, true_and, and_false, false_and, and_self, ite_true, ite_false, ↓reduceIte, Nat.add_zero, if_true, if_false, b2i_t, b2i_f, o2i_s, o2i_n, zdI_s, zdV_s, zdL_s, zcR_s, zcV_x, zcI_x, zcL_x, zcR_x, zrR_s, zth_s, nI_leI, nI_ltI, nI_eq, nI_eq0, nI_eqm1, b2i_eq0, fc2, mm01, hp2, o2i_eq (held_b w c)]
    by_cases hq : s_held s c = some m
    · rw [if_pos hq]
      have g2 := g1.uheld hcC1 none
      rw [y_fr_q, z_closeP_fr, y_held_q] at g2
      refine key _ ?_ (F1.trans ((fr_p3 (k := chK (s_fr s) c) (i := c)).c (by omega)))
      have e1 := closeP_s s m c
      rw [if_pos hq] at e1
      rw [← e1]
      exact g2
    · rw [if_neg hq]
      refine key _ ?_ F1
      have e1 := closeP_s s m c
      rw [if_neg hq, ← hhc, fu_id, uu_held] at e1
      rw [← e1]
      exact g1
theorem begunS_dec {m how : Nat} (hm : m < s_M s) (h0 : s_cond s m = 0) (hh : how ≠ 0) : begunS (u_cond s (fu (s_cond s) m how)) + 1 = begunS s := by
  unfold begunS
  rw [y_M_cond, su_cond]
  generalize s_M s = K at hm
  induction K with
  | zero => omega
  | succ K ih =>
    rw [List.range_succ, List.filter_append, List.filter_append, List.length_append, List.length_append]
    by_cases q : m = K
    · have e1 : (List.range K).filter (fun j => fu (s_cond s) m how j == 0) = (List.range K).filter (fun j => s_cond s j == 0) := by
        refine List.filter_congr fun j hj => ?_
        rw [fu_ne _ _ (by have := List.mem_range.mp hj; omega)]
      rw [e1, ← q, List.filter_cons_of_neg (by rw [fu_self, bqf hh]; decide), List.filter_cons_of_pos (by rw [h0]; rfl)]
      rfl
    · have := ih (by omega)
      have e1 : [K].filter (fun j => fu (s_cond s) m how j == 0) = [K].filter (fun j => s_cond s j == 0) := by
        refine List.filter_congr fun j hj => ?_
        rw [List.mem_singleton.mp hj, fu_ne _ _ (fun z => q z.symm)]
      rw [e1]
      omega
theorem dueS_close {m how : Nat} (hh : how ≠ 0) (c : Nat) : dueS (closeS s m how) c = (dueS s c).filter fun z => !(z == m) := by
  unfold dueS
  rw [z_closeS_M, z_closeS_cond, z_closeS_came, List.filter_filter]
  refine List.filter_congr fun j hj => ?_
  by_cases q : j = m
  · rw [q, fu_self, bqf hh, beq_self_eq_true]; simp
  · rw [fu_ne _ _ q, bqf q]; simp
set_option maxHeartbeats 2000000 in
theorem fB_stopMark_eq (g : Cls e t s) (w : Wf s) {m how : Nat} (hm : m < s_M s) (h0 : s_cond s m = 0) (hh : how ≠ 0) (hh2 : how ≤ 2) : ∃ t', fB_stopMark (pv e t) n (pL e 0 0 0) (some (pL e 5 m 0)) (nI how) = some (.inl none, pv e t', n) ∧ Cls e t' (closeS s m how) ∧ Fr PC t t' := by
  have hN1 := w.N1; have hN8 := w.N8; have hC := w.C; have hM := w.M; have hA := w.ackn
  have o0 := g.o0
  have o5 := g.o5 hm
  have hN : s_N s < 2 ^ 31 := by omega
  have h8 := g.B.2.2.1
  have hbd := begunS_dec hm h0 hh
  have e8 : nI (begunS s) - 1 = nI (begunS (u_cond s (fu (s_cond s) m how))) := by rw [← hbd, ← nI_1, Int32.add_sub_cancel]
  have g1 : ClsG e (wI (wI t 5 m 8 (nI how)) 0 0 8 (nI (begunS (u_cond s (fu (s_cond s) m how))))) (u_cond s (fu (s_cond s) m how)) (fun _ => s_M s) (dueS s) := by
    have hs5 : ∀ k i, k ≠ 5 → same t (wI t 5 m 8 (nI how)) k i := fun k i h => PO.ne (fr_p3 (k := 5) (i := m)) h
    have hs0 : ∀ k i, k ≠ 0 → same (wI t 5 m 8 (nI how)) (wI (wI t 5 m 8 (nI how)) 0 0 8 (nI (begunS (u_cond s (fu (s_cond s) m how))))) k i := fun k i h => PO.ne (fr_p3 (k := 0) (i := 0)) h
    have hs : ∀ k i, k ≠ 5 → k ≠ 0 → same t (wI (wI t 5 m 8 (nI how)) 0 0 8 (nI (begunS (u_cond s (fu (s_cond s) m how))))) k i := fun k i h h' => (hs5 k i h).trans (hs0 k i h')
    unfold ClsG
    simp only [y_N_cond, y_C_cond, y_fr_cond, y_to_cond, y_tol_cond, y_sum_cond, y_rows_cond, y_ended_cond, y_latest_cond, y_q_cond, y_log_cond, y_fin_cond, y_stand_cond, y_over_cond, y_held_cond, y_M_cond, y_pos_cond, y_came_cond, y_kept_cond, y_kEnd_cond, y_kSum_cond, y_kRows_cond, y_fails_cond, y_taken_cond, y_acks_cond, su_cond, d_ins_cond, d_outs_cond, d_hasIn_cond, d_look_cond, d_countS_cond, d_credit_cond, d_heldS_cond]
    refine ⟨g.E, g.R.fr rfl (fun x => rfl), ?_, g.A.fr (hs 1 0 (by decide) (by decide)), g.T.fr (fun x => hs 2 x (by decide) (by decide)), g.C.fr (fun c f _ => by rw [(hs 3 c (by decide) (by decide)).1]) (fun c f _ => by rw [(hs 4 c (by decide) (by decide)).1]), g.S.fr (fun c => hs 3 c (by decide) (by decide)), g.L.fr (fun c => hs 4 c (by decide) (by decide)), ?_⟩
    · obtain ⟨a0, a1, a2, a3⟩ := g.B
      unfold cB
      simp only [qI_wI, true_and, and_true, Nat.reduceEqDiff, false_and, and_false, ↓reduceIte]
      exact ⟨a0, a1, a3⟩
    · intro j hj
      by_cases q : j = m
      · rw [q, fu_self]
        obtain ⟨mm0, mm1, mm2, mm3, mm4, mm5, mm6, mm7, mm8⟩ := g.M m hm
        unfold cMo
        simp only [rI_wI, rJ_wI, qI_wI, true_and, and_true, Nat.reduceEqDiff, false_and, and_false, ↓reduceIte]
        exact ⟨mm0, mm1, mm2, mm3, mm4, mm5, mm6, mm7⟩
      · rw [fu_ne _ _ q]
        exact (g.M j hj).fr (((fr_p3 (k := 5) (i := m)).same (fun z => q z.2)).trans (hs0 5 j (by decide)))
  obtain ⟨t2, h2, g2, F2⟩ := fB_stopMark_17_eq (n := n) (s := u_cond s (fu (s_cond s) m how)) (w.ucond hh2) (m := m) hm (s_C s) 0 _ (dueS s) zF (by rw [y_C_cond, Nat.zero_add]) (zF_big (by omega)) (fun j => by rw [if_neg (by omega)]) (by rw [closeP_0]; exact g1)
  rw [y_C_cond, closeS_P] at g2
  refine ⟨t2, ?_, ?_, (((fr_p3 (k := 5) (i := m)).c (by decide)).trans ((fr_p3 (k := 0) (i := 0)).c (by decide))).trans F2⟩
  · rw [← h2]
    unfold fB_stopMark
    generalize fB_stopMark_17 zF = R
    simp (disch := first | assumption | omega | exact b2i_01 _ | exact Or.inl rfl | exact Or.inr rfl) only [b0 o0, f0_0 o0, f0_1 o0, f0_2 o0, f0_3 o0, f0_4 o0, f0_5 o0, f0_6 o0, p0_6 o0, f0_7 o0, p0_7 o0, f0_8 o0, p0_8 o0, f0_9 o0, p0_9 o0, a0_1 o0, g0_2 o0, a0_2 o0, g0_3 o0, a0_3 o0, a0_4 o0, a0_5 o0, g0_1 o0 hN, g0_4 o0 hN, s0_4 o0 hN, g0_5 o0 hN, s0_5 o0 hN, b5 o5, f5_0 o5, p5_0 o5, f5_1 o5, f5_2 o5, f5_3 o5, f5_4 o5, f5_5 o5, f5_6 o5, f5_7 o5, p5_7 o5, f5_8 o5, p5_8 o5, a5_1 o5, a5_2 o5, a5_3 o5, a5_4 o5, a5_5 o5, a5_6 o5, g5_1 o5 hN, s5_1 o5 hN, g5_2 o5 hN, s5_2 o5 hN, g5_3 o5 hN, s5_3 o5 hN, g5_4 o5 hN, s5_4 o5 hN, g5_5 o5 hN, s5_5 o5 hN, g5_6 o5 hN, s5_6 o5 hN, rI_uI, rI_uJ, rI_uR, rI_wI, rI_wJ, rJ_uJ, rJ_uI, rJ_uR, rJ_wI, rJ_wJ, rR_uR, rR_uI, rR_uJ, rR_wI, rR_wJ, qI_wI, qI_wJ, qI_uI, qI_uJ, qI_uR, qJ_wJ, qJ_wI, qJ_uI, qJ_uJ, qJ_uR, Option.bind_some, zcV_s, zcI_s, zcL_s, zrI, zrV, zrL, nI_mul8, nI_mul16, nI_mul200, nI_1, eq_self, Nat.reduceEqDiff, and_true, true_and, and_false, false_and, and_self, ite_true, ite_false, ↓reduceIte, Nat.add_zero, if_true, if_false, b2i_t, b2i_f, o2i_s, o2i_n, zdI_s, zdV_s, zdL_s, zcR_s, zcV_x, zcI_x, zcL_x, zcR_x, zrR_s, zth_s, nI_leI, nI_ltI, nI_eq, nI_eq0, nI_eqm1, b2i_eq0, h8, e8]
    rfl
  · unfold Cls
    rw [z_closeS_M]
    rw [show dueS (closeS s m how) = fun j => (dueS s j).filter fun z => !(z == m) from funext fun j => dueS_close hh j]
    exact g2
end PO
