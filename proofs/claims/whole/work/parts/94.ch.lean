/-! the class's channels through their common face; what a task reads of them -/
/-- the marks due at a source come in the order of their places, and none is behind its stand -/
def DueOk (s : zSt) (c : Nat) : Prop := ∀ d r, dueS s c = d :: r → s_stand s c ≤ s_pos s d c ∧ ∀ m ∈ r, s_pos s d c ≤ s_pos s m c
theorem barS_find (s : zSt) (c : Nat) : barS s c = (dueS s c).find? fun m => s_pos s m c == s_stand s c := by
  unfold barS dueS
  rw [List.find?_filter]
  refine congrArg (fun f => List.find? f _) (funext fun m => ?_)
  generalize (s_cond s m == 0 && !s_came s m c) = A
  generalize (s_pos s m c == s_stand s c) = B
  cases A <;> cases B <;> rfl
theorem barS_due {s : zSt} {c : Nat} (h : DueOk s c) : barS s c = if dueN (s_stand s c) (fun m => s_pos s m c) (dueS s c) then (dueS s c).head? else none := by
  rw [barS_find]
  cases hd : dueS s c with
  | nil => rfl
  | cons d r =>
    obtain ⟨h1, h2⟩ := h d r hd
    by_cases q : s_pos s d c = s_stand s c
    · have e1 : dueN (s_stand s c) (fun m => s_pos s m c) (d :: r) = true := beq_iff_eq.mpr q
      rw [e1, List.find?_cons_of_pos (by rw [q]; exact beq_self_eq_true _)]
      rfl
    · have e1 : dueN (s_stand s c) (fun m => s_pos s m c) (d :: r) = false := bqf q
      rw [e1]
      refine List.find?_eq_none.mpr fun m hm => ?_
      rcases List.mem_cons.mp hm with rfl | hm
      · rw [bqf q]; decide
      · have := h2 m hm
        have e2 : ¬ s_pos s m c = s_stand s c := by omega
        rw [bqf e2]; decide
theorem sNext_eq {s : zSt} {c : Nat} (h : DueOk s c) (hf : s_fr s c = none) : sNext (s_over s c) (s_log s c) (s_fin s c) (s_stand s c) (fun m => s_pos s m c) (dueS s c) = nextS s c := by
  rw [nextS_src hf, barS_due h]
  unfold sNext
  cases hd : dueS s c with
  | nil => rfl
  | cons d r =>
    cases hn : dueN (s_stand s c) (fun m => s_pos s m c) (d :: r) <;> rfl
section PO
variable {e : pE} {t t' : pS} {s : zSt} {n : Nat} {Mf : Nat → Nat} {due : Nat → List Nat}
theorem ClsG.co (g : ClsG e t s Mf due) {c : Nat} (hc : c < s_C s) : cCo t (chK (s_fr s) c) c (s_fr s c) (s_to s c) (s_held s c) (s_over s c) := g.C c hc
theorem ch_f (E : cE e (s_N s) (s_C s) (s_fr s) (s_M s)) {c : Nat} (hc : c < s_C s) : zgI (pv e t) (some (pL e (chK (s_fr s) c) c 0)) [1, 2] 0 = some (qI t (chK (s_fr s) c) c 0) ∧ zgI (pv e t) (some (pL e (chK (s_fr s) c) c 0)) [1, 2] 1 = some (qI t (chK (s_fr s) c) c 1) ∧ zgI (pv e t) (some (pL e (chK (s_fr s) c) c 0)) [1, 2] 2 = some (qI t (chK (s_fr s) c) c 2) ∧ zgI (pv e t) (some (pL e (chK (s_fr s) c) c 0)) [1, 2] 3 = some (qI t (chK (s_fr s) c) c 3) := by
  cases hf : s_fr s c with
  | none =>
    have o := E.2.2.2.1 c hc hf
    rw [chK_n hf]
    exact ⟨fc3_0 o, fc3_1 o, fc3_2 o, fc3_3 o⟩
  | some k =>
    have o := E.2.2.2.2.1 c k hc hf
    rw [chK_s hf]
    exact ⟨fc4_0 o, fc4_1 o, fc4_2 o, fc4_3 o⟩
theorem ch_p2 (E : cE e (s_N s) (s_C s) (s_fr s) (s_M s)) {c : Nat} (hc : c < s_C s) (v : Int32) : zpI (pv e t) (some (pL e (chK (s_fr s) c) c 0)) [1, 2] 2 v = some (pv e (wI t (chK (s_fr s) c) c 2 v)) := by
  cases hf : s_fr s c with
  | none => rw [chK_n hf]; exact pc3_2 (E.2.2.2.1 c hc hf) v
  | some k => rw [chK_s hf]; exact pc4_2 (E.2.2.2.2.1 c k hc hf) v
theorem ch_p3 (E : cE e (s_N s) (s_C s) (s_fr s) (s_M s)) {c : Nat} (hc : c < s_C s) {v : Int32} (hv : v = 0 ∨ v = 1) : zpZ (pv e t) (some (pL e (chK (s_fr s) c) c 0)) [1, 2] 3 v = some (pv e (wI t (chK (s_fr s) c) c 3 v)) := by
  cases hf : s_fr s c with
  | none => rw [chK_n hf]; exact pc3_3 (E.2.2.2.1 c hc hf) hv
  | some k => rw [chK_s hf]; exact pc4_3 (E.2.2.2.2.1 c k hc hf) hv
theorem ClsG.fc0 (g : ClsG e t s Mf due) {c : Nat} (hc : c < s_C s) : zgI (pv e t) (some (pL e (chK (s_fr s) c) c 0)) [1, 2] 0 = some (o2i (s_fr s c)) := by rw [(ch_f g.E hc).1, (g.co hc).1]
theorem ClsG.fc1 (g : ClsG e t s Mf due) {c : Nat} (hc : c < s_C s) : zgI (pv e t) (some (pL e (chK (s_fr s) c) c 0)) [1, 2] 1 = some (nI (s_to s c)) := by rw [(ch_f g.E hc).2.1, (g.co hc).2.1]
theorem ClsG.fc2 (g : ClsG e t s Mf due) {c : Nat} (hc : c < s_C s) : zgI (pv e t) (some (pL e (chK (s_fr s) c) c 0)) [1, 2] 2 = some (o2i (s_held s c)) := by rw [(ch_f g.E hc).2.2.1, (g.co hc).2.2.1]
theorem ClsG.fc3 (g : ClsG e t s Mf due) {c : Nat} (hc : c < s_C s) : zgI (pv e t) (some (pL e (chK (s_fr s) c) c 0)) [1, 2] 3 = some (b2i (s_over s c)) := by rw [(ch_f g.E hc).2.2.2, (g.co hc).2.2.2]
/-- a call through the common face: of a source or of a line -/
theorem ch_d (E : cE e (s_N s) (s_C s) (s_fr s) (s_M s)) {c : Nat} (hc : c < s_C s) {α : Type} (f : Nat → Option zR) (g : Nat → Option zR) (K : Option zR → Option α) : ((z_obj (pv e t) (some (pL e (chK (s_fr s) c) c 0)) [1, 2]).bind fun o => K (if o.2.1 = 1 then f o.1 else g o.1)) = K (if s_fr s c = none then f (pL e 3 c 0) else g (pL e 4 c 0)) := by
  cases hf : s_fr s c with
  | none => rw [chK_n hf, bc3 (E.2.2.2.1 c hc hf)]; rfl
  | some k => rw [chK_s hf, bc4 (E.2.2.2.2.1 c k hc hf)]; rfl
/-- a line that is over has nothing -/
def OvOk (s : zSt) (c : Nat) : Prop := s_fr s c ≠ none → s_over s c = true → s_q s c = []
theorem Cls.nextKind (g : Cls e t s) {c : Nat} (hc : c < s_C s) (hd : DueOk s c) (ho : OvOk s c) : (if s_fr s c = none then fS_nextKind (pv e t) n (pL e 3 c 0) else fL_nextKind (pv e t) n (pL e 4 c 0)) = some (.inl (some (.int (o2i (nextS s c)))), pv e t, n) := by
  cases hf : s_fr s c with
  | none =>
    rw [if_pos rfl]
    have h3 := (g.co hc).2.2.2
    rw [chK_n hf] at h3
    rw [fS_nextKind_eq (g.o3 hc hf) (g.S c hc hf) h3, sNext_eq hd hf]
  | some k =>
    rw [if_neg (by intro q; cases q), fL_nextKind_eq (g.o4 hc hf) (g.L c k hc hf), nextS_line hf]
    cases hov : s_over s c with
    | false => rfl
    | true => rw [ho (by rw [hf]; intro q; cases q) hov]; rfl
theorem ins_le (w : Wf s) (x : Nat) : (ins s x).length ≤ 16 := by
  unfold ins
  refine Nat.le_trans (List.length_filter_le _ _) ?_
  rw [List.length_range]
  exact w.C
theorem outs_le (w : Wf s) (x : Nat) : (outs s x).length ≤ 16 := by
  unfold outs
  refine Nat.le_trans (List.length_filter_le _ _) ?_
  rw [List.length_range]
  exact w.C
theorem getE {α : Type} {l p : List α} {c : α} {r : List α} (h : l = p ++ c :: r) : l[p.length]? = some c := by rw [h]; simp
theorem mem_of_app {l p r : List Nat} {c : Nat} (h : l = p ++ c :: r) : c ∈ l := by rw [h]; simp
theorem mem_outs {s : zSt} {x c : Nat} : c ∈ outs s x ↔ c < s_C s ∧ s_fr s c = some x := by
  unfold outs
  rw [List.mem_filter, List.mem_range, beq_iff_eq]
set_option maxHeartbeats 2000000 in
theorem fT_hasOpen_2_eq (g : ClsG e t s Mf due) (w : Wf s) {x : Nat} (hx : x < s_N s) : ∀ (r p : List Nat) (f : Nat), ins s x = p ++ r → r.length < f → fT_hasOpen_2 f (pv e t) n (pL e 2 x 0) (nI p.length) = some (.inl (some (.int (b2i (r.any fun c => (s_held s c).isNone && !s_over s c)))), pv e t, n) := by
  have o := g.o2 hx
  have h3 := (g.T x hx).2.1
  have hl16 := ins_le w x
  intro r
  induction r with
  | nil =>
    intro p f hp hf
    obtain ⟨f, rfl⟩ : ∃ g, f = g + 1 := ⟨f - 1, by omega⟩
    have hl : (ins s x).length = p.length := by rw [hp, List.append_nil]
    have q : (ins s x).length ≤ p.length := by omega
    unfold fT_hasOpen_2 zrZ
    simp (disch := first | assumption | omega | exact b2i_01 _ | exact Or.inl rfl | exact Or.inr rfl) only [b2 o, f2_0 o, p2_0 o, f2_1 o, f2_2 o, f2_3 o, p2_3 o, f2_4 o, p2_4 o, f2_5 o, p2_5 o, f2_6 o, p2_6 o, f2_7 o, p2_7 o, f2_8 o, p2_8 o, g2_1 o, a2_1 o, g2_2 o, a2_2 o, rI_uI, rI_uJ, rI_uR, rI_wI, rI_wJ, rJ_uJ, rJ_uI, rJ_uR, rJ_wI, rJ_wJ, rR_uR, rR_uI, rR_uJ, rR_wI, rR_wJ, qI_wI, qI_wJ, qI_uI, qI_uJ, qI_uR, qJ_wJ, qJ_wI, qJ_uI, qJ_uJ, qJ_uR, Option.bind_some, zcV_s, zcI_s, zcL_s, zrI, zrV, zrL, nI_mul8, nI_mul16, nI_mul200, nI_1, eq_self, Nat.reduceEqDiff, and_true, true_and, and_false, false_and, and_self, ite_true, ite_false, ↓reduceIte, Nat.add_zero, if_true, if_false, b2i_t, b2i_f, o2i_s, o2i_n, zdI_s, zdV_s, zdL_s, zcR_s, zcV_x, zcI_x, zcL_x, zcR_x, zrR_s, zth_s, nI_leI, nI_ltI, nI_eq, nI_eq0, nI_eqm1, b2i_eq0, h3, q, true_or]
    rfl
  | cons c r ih =>
    intro p f hp hf
    obtain ⟨f, rfl⟩ : ∃ g, f = g + 1 := ⟨f - 1, by omega⟩
    rw [List.length_cons] at hf
    have hl : (ins s x).length = p.length + (r.length + 1) := by rw [hp, List.length_append, List.length_cons]
    have q : ¬ (ins s x).length ≤ p.length := by omega
    have hc := (mem_ins.mp (mem_of_app hp)).1
    have ih2 := ih (p ++ [c]) f (by rw [hp, List.append_assoc]; rfl) (by omega)
    rw [List.length_append, List.length_singleton] at ih2
    clear ih
    unfold fT_hasOpen_2 fT_hasOpen_37
    generalize fT_hasOpen_2 f = R at ih2 ⊢
    simp (disch := first | assumption | omega | exact b2i_01 _ | exact Or.inl rfl | exact Or.inr rfl) only [b2 o, f2_0 o, p2_0 o, f2_1 o, f2_2 o, f2_3 o, p2_3 o, f2_4 o, p2_4 o, f2_5 o, p2_5 o, f2_6 o, p2_6 o, f2_7 o, p2_7 o, f2_8 o, p2_8 o, g2_1 o, a2_1 o, g2_2 o, a2_2 o, rI_uI, rI_uJ, rI_uR, rI_wI, rI_wJ, rJ_uJ, rJ_uI, rJ_uR, rJ_wI, rJ_wJ, rR_uR, rR_uI, rR_uJ, rR_wI, rR_wJ, qI_wI, qI_wJ, qI_uI, qI_uJ, qI_uR, qJ_wJ, qJ_wI, qJ_uI, qJ_uJ, qJ_uR, Option.bind_some, zcV_s, zcI_s, zcL_s, zrI, zrV, zrL, nI_mul8, nI_mul16, nI_mul200, nI_1, eq_self, Nat.reduceEqDiff, and_true, true_and, and_false, false_and, and_self, ite_true, ite_false, ↓reduceIte, Nat.add_zero, if_true, if_false, b2i_t, b2i_f, o2i_s, o2i_n, zdI_s, zdV_s, zdL_s, zcR_s, zcV_x, zcI_x, zcL_x, zcR_x, zrR_s, zth_s, nI_leI, nI_ltI, nI_eq, nI_eq0, nI_eqm1, b2i_eq0, h3, q, g.ri hx (getE hp), g.fc2 hc, g.fc3 hc, o2i_m1 (held_b w c), ih2]
    unfold zrZ
    cases hh : s_held s c with
    | none => cases ho : s_over s c <;> simp [hh, ho, b2i]
    | some m => simp [hh]
theorem fT_hasOpen_eq (g : ClsG e t s Mf due) (w : Wf s) {x : Nat} (hx : x < s_N s) : fT_hasOpen (pv e t) n (pL e 2 x 0) = some (.inl (some (.int (b2i (!(ins s x).all fun c => (s_held s c).isSome || s_over s c)))), pv e t, n) := by
  have h1 := fT_hasOpen_2_eq (n := n) g w hx (ins s x) [] zF rfl (zF_big (by have := ins_le w x; omega))
  have e1 : (ins s x).any (fun c => (s_held s c).isNone && !s_over s c) = !(ins s x).all fun c => (s_held s c).isSome || s_over s c := by
    rw [List.not_all_eq_any_not]
    congr 1
    funext c
    cases s_held s c <;> cases s_over s c <;> rfl
  rw [e1] at h1
  exact h1
set_option maxHeartbeats 2000000 in
theorem fT_heldFor_2_eq (g : ClsG e t s Mf due) (w : Wf s) {x : Nat} (hx : x < s_N s) : ∀ (r p : List Nat) (f : Nat), ins s x = p ++ r → r.length < f → fT_heldFor_2 f (pv e t) n (pL e 2 x 0) (nI p.length) = some (.inl (some (.int (o2i (r.findSome? fun c => s_held s c)))), pv e t, n) := by
  have o := g.o2 hx
  have h3 := (g.T x hx).2.1
  have hl16 := ins_le w x
  intro r
  induction r with
  | nil =>
    intro p f hp hf
    obtain ⟨f, rfl⟩ : ∃ g, f = g + 1 := ⟨f - 1, by omega⟩
    have hl : (ins s x).length = p.length := by rw [hp, List.append_nil]
    have q : (ins s x).length ≤ p.length := by omega
    unfold fT_heldFor_2
    simp (disch := first | assumption | omega | exact b2i_01 _ | exact Or.inl rfl | exact Or.inr rfl) only [b2 o, f2_0 o, p2_0 o, f2_1 o, f2_2 o, f2_3 o, p2_3 o, f2_4 o, p2_4 o, f2_5 o, p2_5 o, f2_6 o, p2_6 o, f2_7 o, p2_7 o, f2_8 o, p2_8 o, g2_1 o, a2_1 o, g2_2 o, a2_2 o, rI_uI, rI_uJ, rI_uR, rI_wI, rI_wJ, rJ_uJ, rJ_uI, rJ_uR, rJ_wI, rJ_wJ, rR_uR, rR_uI, rR_uJ, rR_wI, rR_wJ, qI_wI, qI_wJ, qI_uI, qI_uJ, qI_uR, qJ_wJ, qJ_wI, qJ_uI, qJ_uJ, qJ_uR, Option.bind_some, zcV_s, zcI_s, zcL_s, zrI, zrV, zrL, nI_mul8, nI_mul16, nI_mul200, nI_1, eq_self, Nat.reduceEqDiff, and_true, true_and, and_false, false_and, and_self, ite_true, ite_false, ↓reduceIte, Nat.add_zero, if_true, if_false, b2i_t, b2i_f, o2i_s, o2i_n, zdI_s, zdV_s, zdL_s, zcR_s, zcV_x, zcI_x, zcL_x, zcR_x, zrR_s, zth_s, nI_leI, nI_ltI, nI_eq, nI_eq0, nI_eqm1, b2i_eq0, h3, q]
    rfl
  | cons c r ih =>
    intro p f hp hf
    obtain ⟨f, rfl⟩ : ∃ g, f = g + 1 := ⟨f - 1, by omega⟩
    rw [List.length_cons] at hf
    have hl : (ins s x).length = p.length + (r.length + 1) := by rw [hp, List.length_append, List.length_cons]
    have q : ¬ (ins s x).length ≤ p.length := by omega
    have hc := (mem_ins.mp (mem_of_app hp)).1
    have ih2 := ih (p ++ [c]) f (by rw [hp, List.append_assoc]; rfl) (by omega)
    rw [List.length_append, List.length_singleton] at ih2
    clear ih
    unfold fT_heldFor_2
    generalize fT_heldFor_2 f = R at ih2 ⊢
    simp (disch := first | assumption | omega | exact b2i_01 _ | exact Or.inl rfl | exact Or.inr rfl) only [b2 o, f2_0 o, p2_0 o, f2_1 o, f2_2 o, f2_3 o, p2_3 o, f2_4 o, p2_4 o, f2_5 o, p2_5 o, f2_6 o, p2_6 o, f2_7 o, p2_7 o, f2_8 o, p2_8 o, g2_1 o, a2_1 o, g2_2 o, a2_2 o, rI_uI, rI_uJ, rI_uR, rI_wI, rI_wJ, rJ_uJ, rJ_uI, rJ_uR, rJ_wI, rJ_wJ, rR_uR, rR_uI, rR_uJ, rR_wI, rR_wJ, qI_wI, qI_wJ, qI_uI, qI_uJ, qI_uR, qJ_wJ, qJ_wI, qJ_uI, qJ_uJ, qJ_uR, Option.bind_some, zcV_s, zcI_s, zcL_s, zrI, zrV, zrL, nI_mul8, nI_mul16, nI_mul200, nI_1, eq_self, Nat.reduceEqDiff, and_true, true_and, and_false, false_and, and_self, ite_true, ite_false, ↓reduceIte, Nat.add_zero, if_true, if_false, b2i_t, b2i_f, o2i_s, o2i_n, zdI_s, zdV_s, zdL_s, zcR_s, zcV_x, zcI_x, zcL_x, zcR_x, zrR_s, zth_s, nI_leI, nI_ltI, nI_eq, nI_eq0, nI_eqm1, b2i_eq0, h3, q, g.ri hx (getE hp), g.fc2 hc, o2i_m1 (held_b w c), ih2]
    cases hh : s_held s c with
    | none => simp [hh]
    | some m => simp [hh]
theorem fT_heldFor_eq (g : ClsG e t s Mf due) (w : Wf s) {x : Nat} (hx : x < s_N s) : fT_heldFor (pv e t) n (pL e 2 x 0) = some (.inl (some (.int (o2i (heldS s x)))), pv e t, n) := fT_heldFor_2_eq (n := n) g w hx (ins s x) [] zF rfl (zF_big (by have := ins_le w x; omega))
set_option maxHeartbeats 2000000 in
theorem fT_hasCredits_2_eq (g : ClsG e t s Mf due) (w : Wf s) {x : Nat} (hx : x < s_N s) : ∀ (r p : List Nat) (f : Nat), outs s x = p ++ r → r.length < f → fT_hasCredits_2 f (pv e t) n (pL e 2 x 0) (nI p.length) = some (.inl (some (.int (b2i (r.all fun c => decide ((s_q s c).length < 8))))), pv e t, n) := by
  have o := g.o2 hx
  have h4 := (g.T x hx).2.2.1
  have hl16 := outs_le w x
  intro r
  induction r with
  | nil =>
    intro p f hp hf
    obtain ⟨f, rfl⟩ : ∃ g, f = g + 1 := ⟨f - 1, by omega⟩
    have hl : (outs s x).length = p.length := by rw [hp, List.append_nil]
    have q : (outs s x).length ≤ p.length := by omega
    unfold fT_hasCredits_2 zrZ
    simp (disch := first | assumption | omega | exact b2i_01 _ | exact Or.inl rfl | exact Or.inr rfl) only [b2 o, f2_0 o, p2_0 o, f2_1 o, f2_2 o, f2_3 o, p2_3 o, f2_4 o, p2_4 o, f2_5 o, p2_5 o, f2_6 o, p2_6 o, f2_7 o, p2_7 o, f2_8 o, p2_8 o, g2_1 o, a2_1 o, g2_2 o, a2_2 o, rI_uI, rI_uJ, rI_uR, rI_wI, rI_wJ, rJ_uJ, rJ_uI, rJ_uR, rJ_wI, rJ_wJ, rR_uR, rR_uI, rR_uJ, rR_wI, rR_wJ, qI_wI, qI_wJ, qI_uI, qI_uJ, qI_uR, qJ_wJ, qJ_wI, qJ_uI, qJ_uJ, qJ_uR, Option.bind_some, zcV_s, zcI_s, zcL_s, zrI, zrV, zrL, nI_mul8, nI_mul16, nI_mul200, nI_1, eq_self, Nat.reduceEqDiff, and_true, true_and, and_false, false_and, and_self, ite_true, ite_false, ↓reduceIte, Nat.add_zero, if_true, if_false, b2i_t, b2i_f, o2i_s, o2i_n, zdI_s, zdV_s, zdL_s, zcR_s, zcV_x, zcI_x, zcL_x, zcR_x, zrR_s, zth_s, nI_leI, nI_ltI, nI_eq, nI_eq0, nI_eqm1, b2i_eq0, h4, q, or_true]
    rfl
  | cons c r ih =>
    intro p f hp hf
    obtain ⟨f, rfl⟩ : ∃ g, f = g + 1 := ⟨f - 1, by omega⟩
    rw [List.length_cons] at hf
    have hl : (outs s x).length = p.length + (r.length + 1) := by rw [hp, List.length_append, List.length_cons]
    have q : ¬ (outs s x).length ≤ p.length := by omega
    obtain ⟨hc, hf2⟩ := mem_outs.mp (mem_of_app hp)
    have o4 := g.o4 hc hf2
    have h6 := (g.L c x hc hf2).2.2.1
    have hq := w.q c
    have ih2 := ih (p ++ [c]) f (by rw [hp, List.append_assoc]; rfl) (by omega)
    rw [List.length_append, List.length_singleton] at ih2
    clear ih
    unfold fT_hasCredits_2
    generalize fT_hasCredits_2 f = R at ih2 ⊢
    simp (disch := first | assumption | omega | exact b2i_01 _ | exact Or.inl rfl | exact Or.inr rfl) only [b2 o, f2_0 o, p2_0 o, f2_1 o, f2_2 o, f2_3 o, p2_3 o, f2_4 o, p2_4 o, f2_5 o, p2_5 o, f2_6 o, p2_6 o, f2_7 o, p2_7 o, f2_8 o, p2_8 o, g2_1 o, a2_1 o, g2_2 o, a2_2 o, b4 o4, bc4 o4, f4_0 o4, p4_0 o4, f4_1 o4, p4_1 o4, f4_2 o4, p4_2 o4, f4_3 o4, p4_3 o4, f4_4 o4, f4_5 o4, f4_6 o4, p4_6 o4, fc4_0 o4, pc4_0 o4, fc4_1 o4, pc4_1 o4, fc4_2 o4, pc4_2 o4, fc4_3 o4, pc4_3 o4, g4_1 o4, z4_1 o4, a4_1 o4, s4_1 o4, g4_2 o4, z4_2 o4, a4_2 o4, s4_2 o4, cp4_1 o4, cp4_2 o4, rI_uI, rI_uJ, rI_uR, rI_wI, rI_wJ, rJ_uJ, rJ_uI, rJ_uR, rJ_wI, rJ_wJ, rR_uR, rR_uI, rR_uJ, rR_wI, rR_wJ, qI_wI, qI_wJ, qI_uI, qI_uJ, qI_uR, qJ_wJ, qJ_wI, qJ_uI, qJ_uJ, qJ_uR, Option.bind_some, zcV_s, zcI_s, zcL_s, zrI, zrV, zrL, nI_mul8, nI_mul16, nI_mul200, nI_1, eq_self, Nat.reduceEqDiff, and_true, true_and, and_false, false_and, and_self, ite_true, ite_false, ↓reduceIte, Nat.add_zero, if_true, if_false, b2i_t, b2i_f, o2i_s, o2i_n, zdI_s, zdV_s, zdL_s, zcR_s, zcV_x, zcI_x, zcL_x, zcR_x, zrR_s, zth_s, nI_leI, nI_ltI, nI_eq, nI_eq0, nI_eqm1, b2i_eq0, h4, q, g.rp hx (getE hp), h6, ih2, show (8 : Int32) = nI 8 from rfl]
    unfold zrZ
    by_cases h8 : (s_q s c).length < 8
    · simp [h8]
    · simp [h8, b2i]
theorem fT_hasCredits_eq (g : ClsG e t s Mf due) (w : Wf s) {x : Nat} (hx : x < s_N s) : fT_hasCredits (pv e t) n (pL e 2 x 0) = some (.inl (some (.int (b2i (credit s x)))), pv e t, n) := fT_hasCredits_2_eq (n := n) g w hx (outs s x) [] zF rfl (zF_big (by have := outs_le w x; omega))
end PO
