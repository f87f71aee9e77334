/-! the class: taskTurn -/
section PO
variable {e : pE} {t t' : pS} {s : zSt} {n : Nat}
theorem dueN_of_bar {c : Nat} (hd : DueOk s c) (h : barS s c = none) : dueN (s_stand s c) (fun m => s_pos s m c) (dueS s c) = false := by
  rw [barS_due hd] at h
  cases hn : dueN (s_stand s c) (fun m => s_pos s m c) (dueS s c) with
  | false => rfl
  | true =>
    rw [hn, if_pos rfl] at h
    cases hl : dueS s c with
    | nil => rw [hl] at hn; cases hn
    | cons d r => rw [hl] at h; cases h
theorem due_of_bar {c m : Nat} (hd : DueOk s c) (h : barS s c = some m) : s_pos s m c = s_stand s c ∧ ∃ r, dueS s c = m :: r := by
  rw [barS_due hd] at h
  cases hn : dueN (s_stand s c) (fun m => s_pos s m c) (dueS s c) with
  | false => rw [hn] at h; cases h
  | true =>
    rw [hn, if_pos rfl] at h
    cases hl : dueS s c with
    | nil => rw [hl] at hn; cases hn
    | cons d r =>
      rw [hl] at h hn
      cases h
      exact ⟨beq_iff_eq.mp hn, r, rfl⟩
theorem src0 {c : Nat} (hf : s_fr s c = none) (hn : nextS s c = some 0) : barS s c = none ∧ s_stand s c < (s_log s c).length := by
  rw [nextS_src hf] at hn
  cases hb : barS s c with
  | some m => rw [hb] at hn; split at hn <;> cases hn
  | none =>
    refine ⟨rfl, ?_⟩
    rw [hb] at hn
    repeat' split at hn
    all_goals (first | cases hn | skip)
    assumption
theorem src2 {c : Nat} (hf : s_fr s c = none) (hn : nextS s c = some 2) : barS s c = none ∧ ¬ s_stand s c < (s_log s c).length := by
  rw [nextS_src hf] at hn
  cases hb : barS s c with
  | some m => rw [hb] at hn; split at hn <;> cases hn
  | none =>
    refine ⟨rfl, fun q => ?_⟩
    rw [hb] at hn
    split at hn
    · cases hn
    · rw [if_neg (by simp)] at hn
      cases hn
theorem tail_cons {α : Type} {z : α} {l : List α} : (z :: l).tail = l := rfl
theorem pass_line (g : Cls e t s) {c k j : Nat} (hc : c < s_C s) (hf : s_fr s c = some k) (hn : nextS s c = some j) : ∃ t', fL_passNext (pv e t) n (pL e 4 c 0) = some (.inl none, pv e t', n) ∧ Cls e t' (u_q s (fu (s_q s) c (s_q s c).tail)) ∧ Fr PC t t' := by
  obtain ⟨z, l, hl, hz1⟩ := head_of hf hn
  have hL := ClsG.L g c k hc hf
  rw [hl] at hL
  obtain ⟨t1, h1, L1, F1, F13⟩ := fL_passNext_eq (n := n) (ClsG.o4 g hc hf) hL
  refine ⟨t1, h1, ?_, F1.c (by decide)⟩
  rw [hl]
  exact ClsG.uq g F1 F13 L1
theorem pass_row (g : Cls e t s) {c : Nat} (hc : c < s_C s) (hd : DueOk s c) (hn : nextS s c = some 0) : ∃ t', (if s_fr s c = none then fS_passNext (pv e t) n (pL e 3 c 0) else fL_passNext (pv e t) n (pL e 4 c 0)) = some (.inl none, pv e t', n) ∧ Cls e t' (if s_fr s c = none then u_stand s (fu (s_stand s) c (s_stand s c + 1)) else u_q s (fu (s_q s) c (s_q s c).tail)) ∧ Fr PC t t' := by
  cases hf : s_fr s c with
  | none =>
    rw [if_pos rfl, if_pos rfl]
    obtain ⟨hb, hlt⟩ := src0 hf hn
    obtain ⟨t1, h1, S1, F1, F13⟩ := fS_passNext_row (n := n) (ClsG.o3 g hc hf) (ClsG.S g c hc hf) (dueN_of_bar hd hb) hlt
    exact ⟨t1, h1, ClsG.ustand g F1 F13 S1, F1.c (by decide)⟩
  | some k =>
    rw [if_neg (by intro q; cases q), if_neg (by intro q; cases q)]
    exact pass_line g hc hf hn
theorem pass_end (g : Cls e t s) {c : Nat} (hc : c < s_C s) (hd : DueOk s c) (hn : nextS s c = some 2) : ∃ t', (if s_fr s c = none then fS_passNext (pv e t) n (pL e 3 c 0) else fL_passNext (pv e t) n (pL e 4 c 0)) = some (.inl none, pv e t', n) ∧ Cls e t' (if s_fr s c = none then s else u_q s (fu (s_q s) c (s_q s c).tail)) ∧ Fr PC t t' := by
  cases hf : s_fr s c with
  | none =>
    rw [if_pos rfl, if_pos rfl]
    obtain ⟨hb, hlt⟩ := src2 hf hn
    exact ⟨t, fS_passNext_end (n := n) (ClsG.o3 g hc hf) (ClsG.S g c hc hf) (dueN_of_bar hd hb) hlt, g, Fr.refl _ _⟩
  | some k =>
    rw [if_neg (by intro q; cases q), if_neg (by intro q; cases q)]
    exact pass_line g hc hf hn
theorem dueS_came (s : zSt) (m c : Nat) : dueS (u_came s (fu2 (s_came s) m c true)) = fu (dueS s) c ((dueS s c).filter fun z => !(z == m)) := by
  funext j
  by_cases q : j = c
  · rw [q, fu_self]
    unfold dueS
    rw [y_M_came, y_cond_came, su_came, List.filter_filter]
    refine List.filter_congr fun i hi => ?_
    show (s_cond s i == 0 && !(if i = m ∧ c = c then true else s_came s i c)) = _
    by_cases r : i = m
    · rw [if_pos ⟨r, rfl⟩, r, beq_self_eq_true]; simp
    · rw [if_neg (fun z => r z.1), bqf r]; simp
  · rw [fu_ne _ _ q]
    unfold dueS
    rw [y_M_came, y_cond_came, su_came]
    refine List.filter_congr fun i hi => ?_
    show (s_cond s i == 0 && !(if i = m ∧ j = c then true else s_came s i j)) = _
    rw [if_neg (fun z => q z.2)]
theorem pass_bar_s (g : Cls e t s) {c m : Nat} (hc : c < s_C s) (hd : DueOk s c) (hf : s_fr s c = none) (hb : barS s c = some m) : ∃ t', fS_passNext (pv e t) n (pL e 3 c 0) = some (.inl none, pv e t', n) ∧ Cls e t' (u_came s (fu2 (s_came s) m c true)) ∧ Fr PC t t' := by
  obtain ⟨hp, r, hr⟩ := due_of_bar hd hb
  have hS := ClsG.S g c hc hf
  rw [hr] at hS
  obtain ⟨t1, h1, S1, F1, F13⟩ := fS_passNext_bar (n := n) (ClsG.o3 g hc hf) hS hp
  refine ⟨t1, h1, ?_, F1.c (by decide)⟩
  rw [← hr] at S1
  have g1 := ClsG.udue g F1 F13 S1
  unfold Cls
  rw [dueS_came, y_M_came]
  unfold ClsG at g1 ⊢
  simp only [y_N_came, y_C_came, y_fr_came, y_to_came, y_tol_came, y_sum_came, y_rows_came, y_ended_came, y_latest_came, y_q_came, y_log_came, y_fin_came, y_stand_came, y_over_came, y_held_came, y_M_came, y_cond_came, y_pos_came, y_kept_came, y_kEnd_came, y_kSum_came, y_kRows_came, y_fails_came, y_taken_came, y_acks_came, su_came, d_ins_came, d_outs_came, d_hasIn_came, d_look_came, d_begunS_came, d_countS_came, d_credit_came, d_heldS_came, d_NKs_came]
  exact g1
theorem val_eq (g : Cls e t s) {c : Nat} (hc : c < s_C s) : (if s_fr s c = none then fS_nextValue (pv e t) n (pL e 3 c 0) else fL_nextValue (pv e t) n (pL e 4 c 0)) = some (.inl (some (.long (if s_fr s c = none then sVal (s_log s c) (s_stand s c) (fun m => s_pos s m c) (dueS s c) else hdV (s_q s c)))), pv e t, n) := by
  cases hf : s_fr s c with
  | none =>
    rw [if_pos rfl, if_pos rfl]
    exact fS_nextValue_eq (n := n) (ClsG.o3 g hc hf) (ClsG.S g c hc hf)
  | some k =>
    rw [if_neg (by intro q; cases q), if_neg (by intro q; cases q)]
    exact fL_nextValue_eq (n := n) (ClsG.o4 g hc hf) (ClsG.L g c k hc hf)
set_option maxHeartbeats 2000000 in
theorem fB_takeNext_run (g : Cls e t s) (w : Wf s) {x c a k : Nat} (hx : x < s_N s) (hd : DueOk s c) (ho : OvOk s c) (ha : (ins s x)[a]? = some c) (hof : fT_nextOffer (pv e t) n (pL e 2 x 0) = some (.inl (some (.int (nI a))), pv e t, n)) (hn : nextS s c = some k) (hcr : k = 0 → credit s x = true) : fB_takeNext (pv e t) n (pL e 0 0 0) (some (pL e 2 x 0)) = fB_takeNext_45 (pv e t) n (some (pL e 2 x 0)) (nI a) (some (pL e (chK (s_fr s) c) c 0)) (nI k) (if s_fr s c = none then sVal (s_log s c) (s_stand s c) (fun m => s_pos s m c) (dueS s c) else hdV (s_q s c)) := by
  have o2 := ClsG.o2 g hx
  have hal := (List.getElem?_eq_some_iff.mp ha).1
  have hl16 := ins_le w x
  have hc := (mem_ins.mp (List.mem_of_getElem? ha)).1
  have hk2 := nextS_le w hn
  have hnk := Cls.nextKind (n := n) g hc hd ho
  rw [hn] at hnk
  have hv := val_eq (n := n) g hc
  have hcd := fT_hasCredits_eq (n := n) g w hx
  have hd1 := ch_d (α := zR) (t := t) (ClsG.E g) hc (fun a => fS_nextKind (pv e t) n a) (fun a => fL_nextKind (pv e t) n a)
  have hd2 := ch_d (α := zR) (t := t) (ClsG.E g) hc (fun a => fS_nextValue (pv e t) n a) (fun a => fL_nextValue (pv e t) n a)
  have hri := ClsG.ri g hx ha
  have hm1 : ¬ nI a = -1 := by rw [nI_eqm1 (by omega)]; exact id
  unfold fB_takeNext
  generalize fB_takeNext_45 = G
  generalize fS_nextKind = GS at hd1 hnk ⊢
  generalize fL_nextKind = GL at hd1 hnk ⊢
  generalize fS_nextValue = HS at hd2 hv ⊢
  generalize fL_nextValue = HL at hd2 hv ⊢
  simp (disch := first | assumption | omega | exact b2i_01 _ | exact Or.inl rfl | exact Or.inr rfl) only [b2 o2, f2_0 o2, p2_0 o2, f2_1 o2, f2_2 o2, f2_3 o2, p2_3 o2, f2_4 o2, p2_4 o2, f2_5 o2, p2_5 o2, f2_6 o2, p2_6 o2, f2_7 o2, p2_7 o2, f2_8 o2, p2_8 o2, g2_1 o2, a2_1 o2, g2_2 o2, a2_2 o2, rI_uI, rI_uJ, rI_uR, rI_wI, rI_wJ, rJ_uJ, rJ_uI, rJ_uR, rJ_wI, rJ_wJ, rR_uR, rR_uI, rR_uJ, rR_wI, rR_wJ, qI_wI, qI_wJ, qI_uI, qI_uJ, qI_uR, qJ_wJ, qJ_wI, qJ_uI, qJ_uJ, qJ_uR, Option.bind_some, zcV_s, zcI_s, zcL_s, zrI, zrV, zrL, nI_mul8, nI_mul16, nI_mul200, nI_1, eq_self, Nat.reduceEqDiff, and_true, true_and, and_false, false_and, and_self, ite_true, ite_false, ↓reduceIte, Nat.add_zero, if_true, if_false, b2i_t, b2i_f, o2i_s, o2i_n, zdI_s, zdV_s, zdL_s, zcR_s, zcV_x, zcI_x, zcL_x, zcR_x, zrR_s, zth_s, nI_leI, nI_ltI, nI_eq, nI_eq0, nI_eqm1, b2i_eq0, hof, hm1, hri]
  rw [hd1 (fun a => zdI a _), hnk]
  simp (disch := first | assumption | omega | exact b2i_01 _ | exact Or.inl rfl | exact Or.inr rfl) only [b2 o2, f2_0 o2, p2_0 o2, f2_1 o2, f2_2 o2, f2_3 o2, p2_3 o2, f2_4 o2, p2_4 o2, f2_5 o2, p2_5 o2, f2_6 o2, p2_6 o2, f2_7 o2, p2_7 o2, f2_8 o2, p2_8 o2, g2_1 o2, a2_1 o2, g2_2 o2, a2_2 o2, rI_uI, rI_uJ, rI_uR, rI_wI, rI_wJ, rJ_uJ, rJ_uI, rJ_uR, rJ_wI, rJ_wJ, rR_uR, rR_uI, rR_uJ, rR_wI, rR_wJ, qI_wI, qI_wJ, qI_uI, qI_uJ, qI_uR, qJ_wJ, qJ_wI, qJ_uI, qJ_uJ, qJ_uR, Option.bind_some, zcV_s, zcI_s, zcL_s, zrI, zrV, zrL, nI_mul8, nI_mul16, nI_mul200, nI_1, eq_self, Nat.reduceEqDiff, and_true, true_and, and_false, false_and, and_self, ite_true, ite_false, ↓reduceIte, Nat.add_zero, if_true, if_false, b2i_t, b2i_f, o2i_s, o2i_n, zdI_s, zdV_s, zdL_s, zcR_s, zcV_x, zcI_x, zcL_x, zcR_x, zrR_s, zth_s, nI_leI, nI_ltI, nI_eq, nI_eq0, nI_eqm1, b2i_eq0]
  rw [hd2 (fun a => zdL a _), hv]
  simp (disch := first | assumption | omega | exact b2i_01 _ | exact Or.inl rfl | exact Or.inr rfl) only [b2 o2, f2_0 o2, p2_0 o2, f2_1 o2, f2_2 o2, f2_3 o2, p2_3 o2, f2_4 o2, p2_4 o2, f2_5 o2, p2_5 o2, f2_6 o2, p2_6 o2, f2_7 o2, p2_7 o2, f2_8 o2, p2_8 o2, g2_1 o2, a2_1 o2, g2_2 o2, a2_2 o2, rI_uI, rI_uJ, rI_uR, rI_wI, rI_wJ, rJ_uJ, rJ_uI, rJ_uR, rJ_wI, rJ_wJ, rR_uR, rR_uI, rR_uJ, rR_wI, rR_wJ, qI_wI, qI_wJ, qI_uI, qI_uJ, qI_uR, qJ_wJ, qJ_wI, qJ_uI, qJ_uJ, qJ_uR, Option.bind_some, zcV_s, zcI_s, zcL_s, zrI, zrV, zrL, nI_mul8, nI_mul16, nI_mul200, nI_1, eq_self, Nat.reduceEqDiff, and_true, true_and, and_false, false_and, and_self, ite_true, ite_false, ↓reduceIte, Nat.add_zero, if_true, if_false, b2i_t, b2i_f, o2i_s, o2i_n, zdI_s, zdV_s, zdL_s, zcR_s, zcV_x, zcI_x, zcL_x, zcR_x, zrR_s, zth_s, nI_leI, nI_ltI, nI_eq, nI_eq0, nI_eqm1, b2i_eq0, hcd]
  by_cases q : k = 0
  · rw [hcr q]
    simp [q, b2i]
  · rw [if_neg q]
theorem u_latest_stand (s : zSt) (a : Nat → Option Nat) (b : Nat → Nat) : u_latest (u_stand s b) a = u_stand (u_latest s a) b := rfl
theorem u_latest_q (s : zSt) (a : Nat → Option Nat) (b : Nat → List (Nat × Int64)) : u_latest (u_q s b) a = u_q (u_latest s a) b := rfl
theorem u_latest_came (s : zSt) (a : Nat → Option Nat) (b : Nat → Nat → Bool) : u_latest (u_came s b) a = u_came (u_latest s a) b := rfl
theorem credit_q {x : Nat} (h : credit s x = true) {c : Nat} (hc : c ∈ outs s x) : (s_q s c).length < 8 := of_decide_eq_true (List.all_eq_true.mp h c hc)
set_option maxHeartbeats 2000000 in
theorem take_0 (g : Cls e t s) (w : Wf s) {x c a : Nat} (hx : x < s_N s) (hd : DueOk s c) (ha : (ins s x)[a]? = some c) (hn : nextS s c = some 0) (hcr : credit s x = true) : ∃ t', fB_takeNext_45 (pv e t) n (some (pL e 2 x 0)) (nI a) (some (pL e (chK (s_fr s) c) c 0)) 0 (if s_fr s c = none then sVal (s_log s c) (s_stand s c) (fun m => s_pos s m c) (dueS s c) else hdV (s_q s c)) = some (.inl (some (.int 1)), pv e t', n) ∧ Cls e t' (takeS s x c).2 ∧ (takeS s x c).1 = 1 ∧ Fr PC t t' := by
  have hc := (mem_ins.mp (List.mem_of_getElem? ha)).1
  have hN8 := w.N8
  obtain ⟨t1, h1, g1, F1⟩ := pass_row (n := n) g hc hd hn
  have hev : (if s_fr s c = none then sVal (s_log s c) (s_stand s c) (fun m => s_pos s m c) (dueS s c) else hdV (s_q s c)) = if s_fr s c = none then (s_log s c).getD (s_stand s c) 0 else hdV (s_q s c) := by
    cases hf : s_fr s c with
    | some k => rfl
    | none =>
      rw [if_pos rfl, if_pos rfl]
      unfold sVal
      rw [dueN_of_bar hd (src0 hf hn).1]
      rfl
  rw [hev]
  generalize hV : (if s_fr s c = none then (s_log s c).getD (s_stand s c) 0 else hdV (s_q s c)) = v
  -- the state after the channel has passed on
  have hS1 : ∃ s1, s1 = (if s_fr s c = none then u_stand s (fu (s_stand s) c (s_stand s c + 1)) else u_q s (fu (s_q s) c (s_q s c).tail)) := ⟨_, rfl⟩
  obtain ⟨s1, hs1⟩ := hS1
  have w1 : Wf s1 := by
    rw [hs1]
    split
    · rename_i hf
      exact w.ustand (by have := (src0 hf hn).2; omega)
    · exact w.utail
  rw [← hs1] at g1
  have hsame : s_N s1 = s_N s ∧ ins s1 = ins s ∧ outs s1 = outs s ∧ s_latest s1 = s_latest s ∧ s_rows s1 = s_rows s ∧ s_sum s1 = s_sum s ∧ s_fr s1 = s_fr s ∧ (∀ j, (s_q s1 j).length ≤ (s_q s j).length) := by
    rw [hs1]
    split
    · exact ⟨rfl, rfl, rfl, rfl, rfl, rfl, rfl, fun _ => Nat.le_refl _⟩
    · refine ⟨rfl, rfl, rfl, rfl, rfl, rfl, rfl, fun j => ?_⟩
      rw [su_q]
      by_cases q : j = c
      · rw [q, fu_self, List.length_tail]; omega
      · rw [fu_ne _ _ q]; exact Nat.le_refl _
  obtain ⟨e1, e2, e3, e4, e5, e6, e7, e8⟩ := hsame
  have hx1 : x < s_N s1 := by rw [e1]; exact hx
  obtain ⟨t2, h2, g2, F2⟩ := fT_lookFromBehind_eq (n := n) g1 w1 (x := x) (a := a) (c := c) hx1 (by rw [e2]; exact ha)
  have hx2 : x < s_N (u_latest s1 (fu (s_latest s1) x (some c))) := hx1
  have o2 := ClsG.o2 g2 hx2
  obtain ⟨a0, a1, a2, a3, a4, a5, a6⟩ := ClsG.T g2 x hx2
  rw [y_sum_latest] at a4
  rw [y_rows_latest] at a5
  have g3 := ClsG.urow g2 hx2 (s_sum s1 x + v) (s_rows s1 x + 1)
  have w3 : Wf (u_sum (u_rows (u_latest s1 (fu (s_latest s1) x (some c))) (fu (s_rows (u_latest s1 (fu (s_latest s1) x (some c)))) x (s_rows s1 x + 1))) (fu (s_sum (u_latest s1 (fu (s_latest s1) x (some c)))) x (s_sum s1 x + v))) := ((w1.ulatest (fun k hk => by cases hk; rw [hs1]; split <;> exact hc)).urows).usum
  obtain ⟨t4, h4, g4, F4⟩ := fT_putOut_eq (n := n) (k := 0) g3 w3 (x := x) hx1 (3 * v + lN x) (fun j hj => by
    have hj' : j ∈ outs s1 x := hj
    rw [e3] at hj'
    have := credit_q hcr hj'
    have := e8 j
    show (s_q s1 j).length < 9
    omega)
  have h4' : fT_putOut (pv e (wI (wJ t2 2 x 6 (s_sum s1 x + v)) 2 x 7 (s_rows s1 x + 1))) n (pL e 2 x 0) 0 (3 * v + lN x) = some (.inl none, pv e t4, n) := h4
  have hdd := ch_d (α := zR) (t := t) (ClsG.E g) hc (fun a => fS_passNext (pv e t) n a) (fun a => fL_passNext (pv e t) n a)
  refine ⟨t4, ?_, ?_, ?_, F1.trans (F2.trans (((Fr.wI (po 2 x) (Fr.wJ (po 2 x) (Fr.refl _ _))).c (by decide)).trans F4))⟩
  · unfold fB_takeNext_45
    generalize fS_passNext = GS at hdd h1 ⊢
    generalize fL_passNext = GL at hdd h1 ⊢
    rw [hdd (fun a => zdV a _), h1]
    simp (disch := first | assumption | omega | exact b2i_01 _ | exact Or.inl rfl | exact Or.inr rfl) only [b2 o2, f2_0 o2, p2_0 o2, f2_1 o2, f2_2 o2, f2_3 o2, p2_3 o2, f2_4 o2, p2_4 o2, f2_5 o2, p2_5 o2, f2_6 o2, p2_6 o2, f2_7 o2, p2_7 o2, f2_8 o2, p2_8 o2, g2_1 o2, a2_1 o2, g2_2 o2, a2_2 o2, rI_uI, rI_uJ, rI_uR, rI_wI, rI_wJ, rJ_uJ, rJ_uI, rJ_uR, rJ_wI, rJ_wJ, rR_uR, rR_uI, rR_uJ, rR_wI, rR_wJ, qI_wI, qI_wJ, qI_uI, qI_uJ, qI_uR, qJ_wJ, qJ_wI, qJ_uI, qJ_uJ, qJ_uR, Option.bind_some, zcV_s, zcI_s, zcL_s, zrI, zrV, zrL, nI_mul8, nI_mul16, nI_mul200, nI_1, eq_self, Nat.reduceEqDiff, and_true, true_and, and_false, false_and, and_self, ite_true, ite_false, ↓reduceIte, Nat.add_zero, if_true, if_false, b2i_t, b2i_f, o2i_s, o2i_n, zdI_s, zdV_s, zdL_s, zcR_s, zcV_x, zcI_x, zcL_x, zcR_x, zrR_s, zth_s, nI_leI, nI_ltI, nI_eq, nI_eq0, nI_eqm1, b2i_eq0, h2, a0, a4, a5, nI_l (show x < 2 ^ 31 by omega), h4']
  · have e9 : (takeS s x c).2 = giveS (u_sum (u_rows (u_latest s1 (fu (s_latest s1) x (some c))) (fu (s_rows (u_latest s1 (fu (s_latest s1) x (some c)))) x (s_rows s1 x + 1))) (fu (s_sum (u_latest s1 (fu (s_latest s1) x (some c)))) x (s_sum s1 x + v))) x 0 (3 * v + lN x) := by
      unfold takeS
      rw [hn]
      simp only [hcr, if_true]
      rw [← hV, hs1]
      cases hf : s_fr s c with
      | none => rfl
      | some k => rfl
    rw [e9]
    exact g4
  · unfold takeS
    rw [hn]
    simp only [hcr, if_true]
set_option maxHeartbeats 2000000 in
theorem take_1 (g : Cls e t s) (w : Wf s) {x c a : Nat} (hx : x < s_N s) (hd : DueOk s c) (ha : (ins s x)[a]? = some c) (hn : nextS s c = some 1) : ∃ t', fB_takeNext_45 (pv e t) n (some (pL e 2 x 0)) (nI a) (some (pL e (chK (s_fr s) c) c 0)) 1 (if s_fr s c = none then sVal (s_log s c) (s_stand s c) (fun m => s_pos s m c) (dueS s c) else hdV (s_q s c)) = some (.inl (some (.int 2)), pv e t', n) ∧ Cls e t' (takeS s x c).2 ∧ (takeS s x c).1 = 2 ∧ Fr PC t t' := by
  have hc := (mem_ins.mp (List.mem_of_getElem? ha)).1
  have hN8 := w.N8
  have hM := w.M
  have hpass : ∃ m t1 s1, (if s_fr s c = none then fS_passNext (pv e t) n (pL e 3 c 0) else fL_passNext (pv e t) n (pL e 4 c 0)) = some (.inl none, pv e t1, n) ∧ Cls e t1 s1 ∧ Fr PC t t1 ∧ Wf s1 ∧ m < s_M s ∧ (if s_fr s c = none then sVal (s_log s c) (s_stand s c) (fun m => s_pos s m c) (dueS s c) else hdV (s_q s c)) = lN m ∧ s_N s1 = s_N s ∧ s_C s1 = s_C s ∧ ins s1 = ins s ∧ s_fr s1 = s_fr s ∧ takeS s x c = (2, u_held (u_latest s1 (fu (s_latest s1) x (some c))) (fu (s_held (u_latest s1 (fu (s_latest s1) x (some c)))) c (some m))) := by
    cases hf : s_fr s c with
    | none =>
      obtain ⟨m, hm⟩ := bar_of hf hn
      obtain ⟨t1, h1, g1, F1⟩ := pass_bar_s (n := n) g hc hd hf hm
      obtain ⟨hp, r, hr⟩ := due_of_bar hd hm
      refine ⟨m, t1, _, ?_, g1, F1, w.ucame, barS_lt hm, ?_, rfl, rfl, rfl, rfl, ?_⟩
      · rw [if_pos rfl]; exact h1
      · rw [if_pos rfl]
        unfold sVal
        rw [hr, show dueN (s_stand s c) (fun m => s_pos s m c) (m :: r) = true from beq_iff_eq.mpr hp]
        rfl
      · rw [takeS_1s hn hf hm, y_latest_came, y_held_latest, y_held_came, u_latest_came]
    | some k =>
      obtain ⟨z, l, hl, hz1⟩ := head_of hf hn
      obtain ⟨m, hm, hz2⟩ := w.bar (c := c) (z := z) (by rw [hl]; exact List.mem_cons_self) hz1
      have hhd : hdV (s_q s c) = lN m := by rw [hl]; exact hz2
      obtain ⟨t1, h1, g1, F1⟩ := pass_line (n := n) g hc hf hn
      refine ⟨m, t1, _, ?_, g1, F1, w.utail, hm, ?_, rfl, rfl, rfl, rfl, ?_⟩
      · rw [if_neg (by intro q; cases q)]; exact h1
      · rw [if_neg (by intro q; cases q)]; exact hhd
      · rw [takeS_1l hn hf (m := m) (by rw [hhd, lN_i, nI_clamp (by omega)]), y_latest_q, y_held_latest, y_held_q, u_latest_q]
  obtain ⟨m, t1, s1, h1, g1, F1, w1, hm, hv, e1, eC, e2, e7, htk⟩ := hpass
  rw [hv, htk]
  have hx1 : x < s_N s1 := by rw [e1]; exact hx
  obtain ⟨t2, h2, g2, F2⟩ := fT_lookFromBehind_eq (n := n) g1 w1 (x := x) (a := a) (c := c) hx1 (by rw [e2]; exact ha)
  have hc2 : c < s_C (u_latest s1 (fu (s_latest s1) x (some c))) := by rw [y_C_latest, eC]; exact hc
  have g3 := ClsG.uheld g2 hc2 (some m)
  rw [y_fr_latest, e7, o2i_s] at g3
  have hp2 := ch_p2 (t := t2) (ClsG.E g2) hc2 (nI m)
  rw [y_fr_latest, e7] at hp2
  have hdd := ch_d (α := zR) (t := t) (ClsG.E g) hc (fun a => fS_passNext (pv e t) n a) (fun a => fL_passNext (pv e t) n a)
  have o2 := ClsG.o2 g hx
  have hk := chK_34 (s_fr s) c
  refine ⟨_, ?_, g3, rfl, F1.trans (F2.trans ((fr_p3 (k := chK (s_fr s) c) (i := c)).c (by omega)))⟩
  unfold fB_takeNext_45
  generalize fS_passNext = GS at hdd h1 ⊢
  generalize fL_passNext = GL at hdd h1 ⊢
  rw [hdd (fun a => zdV a _), h1]
  simp (disch := first | assumption | omega | exact b2i_01 _ | exact Or.inl rfl | exact Or.inr rfl) only [b2 o2, f2_0 o2, p2_0 o2, f2_1 o2, f2_2 o2, f2_3 o2, p2_3 o2, f2_4 o2, p2_4 o2, f2_5 o2, p2_5 o2, f2_6 o2, p2_6 o2, f2_7 o2, p2_7 o2, f2_8 o2, p2_8 o2, g2_1 o2, a2_1 o2, g2_2 o2, a2_2 o2, rI_uI, rI_uJ, rI_uR, rI_wI, rI_wJ, rJ_uJ, rJ_uI, rJ_uR, rJ_wI, rJ_wJ, rR_uR, rR_uI, rR_uJ, rR_wI, rR_wJ, qI_wI, qI_wJ, qI_uI, qI_uJ, qI_uR, qJ_wJ, qJ_wI, qJ_uI, qJ_uJ, qJ_uR, Option.bind_some, zcV_s, zcI_s, zcL_s, zrI, zrV, zrL, nI_mul8, nI_mul16, nI_mul200, nI_1, eq_self, Nat.reduceEqDiff, and_true, true_and, and_false, false_and, and_self, ite_true, ite_false, ↓reduceIte, Nat.add_zero, if_true, if_false, b2i_t, b2i_f, o2i_s, o2i_n, zdI_s, zdV_s, zdL_s, zcR_s, zcV_x, zcI_x, zcL_x, zcR_x, zrR_s, zth_s, nI_leI, nI_ltI, nI_eq, nI_eq0, nI_eqm1, b2i_eq0, h2, i10, lN_i, hp2]
set_option maxHeartbeats 2000000 in
theorem take_2 (g : Cls e t s) (w : Wf s) {x c a : Nat} (hx : x < s_N s) (hd : DueOk s c) (ha : (ins s x)[a]? = some c) (hn : nextS s c = some 2) (v : Int64) : ∃ t', fB_takeNext_45 (pv e t) n (some (pL e 2 x 0)) (nI a) (some (pL e (chK (s_fr s) c) c 0)) 2 v = some (.inl (some (.int 3)), pv e t', n) ∧ Cls e t' (takeS s x c).2 ∧ (takeS s x c).1 = 3 ∧ Fr PC t t' := by
  have hc := (mem_ins.mp (List.mem_of_getElem? ha)).1
  obtain ⟨t1, h1, g1, F1⟩ := pass_end (n := n) g hc hd hn
  obtain ⟨s1, hs1⟩ : ∃ s1, s1 = (if s_fr s c = none then s else u_q s (fu (s_q s) c (s_q s c).tail)) := ⟨_, rfl⟩
  rw [← hs1] at g1
  have w1 : Wf s1 := by
    rw [hs1]
    split
    · exact w
    · exact w.utail
  have hsame : s_N s1 = s_N s ∧ s_C s1 = s_C s ∧ ins s1 = ins s ∧ s_fr s1 = s_fr s := by
    rw [hs1]
    split
    · exact ⟨rfl, rfl, rfl, rfl⟩
    · exact ⟨rfl, rfl, rfl, rfl⟩
  obtain ⟨e1, eC, e2, e7⟩ := hsame
  have htk : takeS s x c = (3, u_over (u_latest s1 (fu (s_latest s1) x (some c))) (fu (s_over (u_latest s1 (fu (s_latest s1) x (some c)))) c true)) := by
    unfold takeS
    rw [hn]
    dsimp only
    rw [hs1]
    cases hf : s_fr s c with
    | none => rfl
    | some k => rfl
  rw [htk]
  have hx1 : x < s_N s1 := by rw [e1]; exact hx
  obtain ⟨t2, h2, g2, F2⟩ := fT_lookFromBehind_eq (n := n) g1 w1 (x := x) (a := a) (c := c) hx1 (by rw [e2]; exact ha)
  have hc2 : c < s_C (u_latest s1 (fu (s_latest s1) x (some c))) := by rw [y_C_latest, eC]; exact hc
  have g3 := ClsG.uover g2 hc2 true
  rw [y_fr_latest, e7, b2i_t] at g3
  have hp2 := ch_p3 (t := t2) (ClsG.E g2) hc2 (v := 1) (Or.inr rfl)
  rw [y_fr_latest, e7] at hp2
  have hdd := ch_d (α := zR) (t := t) (ClsG.E g) hc (fun a => fS_passNext (pv e t) n a) (fun a => fL_passNext (pv e t) n a)
  have o2 := ClsG.o2 g hx
  have hk := chK_34 (s_fr s) c
  refine ⟨_, ?_, g3, rfl, F1.trans (F2.trans ((fr_p3 (k := chK (s_fr s) c) (i := c)).c (by omega)))⟩
  unfold fB_takeNext_45
  generalize fS_passNext = GS at hdd h1 ⊢
  generalize fL_passNext = GL at hdd h1 ⊢
  rw [hdd (fun a => zdV a _), h1]
  simp (disch := first | assumption | omega | exact b2i_01 _ | exact Or.inl rfl | exact Or.inr rfl) only [b2 o2, f2_0 o2, p2_0 o2, f2_1 o2, f2_2 o2, f2_3 o2, p2_3 o2, f2_4 o2, p2_4 o2, f2_5 o2, p2_5 o2, f2_6 o2, p2_6 o2, f2_7 o2, p2_7 o2, f2_8 o2, p2_8 o2, g2_1 o2, a2_1 o2, g2_2 o2, a2_2 o2, rI_uI, rI_uJ, rI_uR, rI_wI, rI_wJ, rJ_uJ, rJ_uI, rJ_uR, rJ_wI, rJ_wJ, rR_uR, rR_uI, rR_uJ, rR_wI, rR_wJ, qI_wI, qI_wJ, qI_uI, qI_uJ, qI_uR, qJ_wJ, qJ_wI, qJ_uI, qJ_uJ, qJ_uR, Option.bind_some, zcV_s, zcI_s, zcL_s, zrI, zrV, zrL, nI_mul8, nI_mul16, nI_mul200, nI_1, eq_self, Nat.reduceEqDiff, and_true, true_and, and_false, false_and, and_self, ite_true, ite_false, ↓reduceIte, Nat.add_zero, if_true, if_false, b2i_t, b2i_f, o2i_s, o2i_n, zdI_s, zdV_s, zdL_s, zcR_s, zcV_x, zcI_x, zcL_x, zcR_x, zrR_s, zth_s, nI_leI, nI_ltI, nI_eq, nI_eq0, nI_eqm1, b2i_eq0, h2, i20, i21, hp2]
end PO
