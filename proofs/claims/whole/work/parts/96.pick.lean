/-! the order in which a task looks at the channels into it; what it takes -/
theorem rot_list {C b : Nat} (hC : 0 < C) (hb : b ≤ C) : (List.range C).map (fun k => (b + k) % C) = List.range' b (C - b) ++ List.range' 0 b := by
  apply List.ext_getElem
  · rw [List.length_map, List.length_range, List.length_append, List.length_range', List.length_range']; omega
  · intro i h1 h2
    rw [List.length_map, List.length_range] at h1
    rw [List.getElem_map, List.getElem_range, List.getElem_append]
    split
    · rename_i h3
      rw [List.length_range'] at h3
      rw [List.getElem_range', Nat.mod_eq_of_lt (by omega)]
      omega
    · rename_i h3
      rw [List.length_range'] at h3
      rw [List.getElem_range', List.length_range', show b + i = (b + i - C) + C by omega, Nat.add_mod_right, Nat.mod_eq_of_lt (by omega)]
      omega
section PO
variable {e : pE} {t t' : pS} {s : zSt} {n : Nat}
theorem ins_split (s : zSt) (x : Nat) {b : Nat} (hb : b ≤ s_C s) : ins s x = (List.range' 0 b).filter (fun c => s_to s c == x) ++ (List.range' b (s_C s - b)).filter (fun c => s_to s c == x) := by
  unfold ins
  rw [← List.filter_append, List.range_eq_range']
  congr 1
  have := List.range'_append_1 (s := 0) (m := b) (n := s_C s - b)
  rw [Nat.zero_add, show b + (s_C s - b) = s_C s by omega] at this
  exact this.symm
theorem rot_ins (w : Wf s) (x : Nat) (hC : 0 < s_C s) : ((List.range' 0 (s_C s)).map (pkI s x)).filter (fun c => s_to s c == x) = (ins s x).drop (look s x) ++ (ins s x).take (look s x) := by
  rw [← List.range_eq_range']
  cases hl : s_latest s x with
  | none =>
    have e1 : pkI s x = fun k => (0 + k) % s_C s := by funext k; unfold pkI; rw [hl, Nat.zero_add]
    have e2 : look s x = 0 := by unfold look; rw [hl]
    rw [e1, e2, rot_list hC (Nat.zero_le _), List.drop_zero, List.take_zero, List.append_nil]
    show (List.range' 0 (s_C s - 0) ++ []).filter _ = _
    rw [List.append_nil, Nat.sub_zero, ← List.range_eq_range']
    rfl
  | some c =>
    have hc := w.latest hl
    have e1 : pkI s x = fun k => (c + 1 + k) % s_C s := by funext k; unfold pkI; rw [hl]
    rw [e1, rot_list hC (by omega), List.filter_append]
    have hsp := ins_split s x (b := c + 1) (by omega)
    generalize hA : (List.range' 0 (c + 1)).filter (fun c => s_to s c == x) = A at hsp ⊢
    generalize hB : (List.range' (c + 1) (s_C s - (c + 1))).filter (fun c => s_to s c == x) = B at hsp ⊢
    have hfA : A.filter (fun j => decide (j ≤ c)) = A := List.filter_eq_self.mpr fun j hj => by
      rw [← hA] at hj
      have := List.mem_range'_1.mp (List.mem_filter.mp hj).1
      exact decide_eq_true (by omega)
    have hfB : B.filter (fun j => decide (j ≤ c)) = [] := List.filter_eq_nil_iff.mpr fun j hj => by
      rw [← hB] at hj
      have := List.mem_range'_1.mp (List.mem_filter.mp hj).1
      simp
      omega
    have e2 : look s x = if A.length < (A ++ B).length then A.length else 0 := by
      unfold look
      rw [hl]
      dsimp only
      rw [hsp, List.filter_append, hfA, hfB, List.append_nil]
    rw [hsp, e2]
    by_cases q : A.length < (A ++ B).length
    · rw [if_pos q, List.drop_left, List.take_left]
    · rw [if_neg q, List.drop_zero, List.take_zero, List.append_nil]
      have : B = [] := by
        rw [List.length_append] at q
        exact List.eq_nil_of_length_eq_zero (by omega)
      rw [this, List.append_nil, List.nil_append]
def rotI (s : zSt) (x : Nat) : List Nat := (ins s x).drop (look s x) ++ (ins s x).take (look s x)
theorem pick_rot (w : Wf s) (x : Nat) (hC : 0 < s_C s) : pickS s x = (rotI s x).find? fun c => (s_held s c).isNone && (nextS s c).isSome := by
  rw [pickS_eq]
  unfold rotI
  rw [← rot_ins w x hC, List.find?_filter]
  refine congrArg (fun f => List.find? f _) (funext fun c => ?_)
  unfold pkP
  rw [Bool.and_assoc]
  generalize (s_to s c == x) = A
  generalize ((s_held s c).isNone && (nextS s c).isSome) = B
  cases A <;> cases B <;> rfl
theorem look_le (s : zSt) (x : Nat) : look s x = 0 ∨ look s x < (ins s x).length := by
  unfold look
  split
  · exact Or.inl rfl
  · split
    · rename_i q; exact Or.inr q
    · exact Or.inl rfl
theorem rot_len (s : zSt) (x : Nat) : (rotI s x).length = (ins s x).length := by
  unfold rotI
  rw [List.length_append, List.length_drop, List.length_take]
  have := look_le s x
  omega
theorem rot_get (s : zSt) (x i : Nat) (hi : i < (ins s x).length) : (rotI s x)[i]? = (ins s x)[if look s x + i < (ins s x).length then look s x + i else look s x + i - (ins s x).length]? := by
  have hl := look_le s x
  unfold rotI
  rw [List.getElem?_append, List.length_drop]
  by_cases q : look s x + i < (ins s x).length
  · rw [if_pos q, if_pos (by omega), List.getElem?_drop]
  · rw [if_neg q, if_neg (by omega), List.getElem?_take, if_pos (by omega)]
    congr 1
    omega
theorem mem_rot {s : zSt} {x c : Nat} (h : c ∈ rotI s x) : c ∈ ins s x := by
  unfold rotI at h
  rcases List.mem_append.mp h with h | h
  · exact List.mem_of_mem_drop h
  · exact List.mem_of_mem_take h
set_option maxHeartbeats 2000000 in
theorem fT_nextOffer_2_eq (g : Cls e t s) (w : Wf s) {x : Nat} (hx : x < s_N s) (hd : ∀ c, c ∈ ins s x → DueOk s c) (ho : ∀ c, c ∈ ins s x → OvOk s c) : ∀ (r p : List Nat) (f : Nat), rotI s x = p ++ r → r.length < f → (∀ c, (r.find? fun c => (s_held s c).isNone && (nextS s c).isSome) = some c → ∃ a, (ins s x)[a]? = some c ∧ fT_nextOffer_2 f (pv e t) n (pL e 2 x 0) (nI p.length) = some (.inl (some (.int (nI a))), pv e t, n)) ∧ ((r.find? fun c => (s_held s c).isNone && (nextS s c).isSome) = none → fT_nextOffer_2 f (pv e t) n (pL e 2 x 0) (nI p.length) = some (.inl (some (.int (-1))), pv e t, n)) := by
  have o := g.o2 hx
  have h3 := (g.T x hx).2.1
  have h5 := (g.T x hx).2.2.2.1
  have hl16 := ins_le w x
  have hlk := look_le s x
  intro r
  induction r with
  | nil =>
    intro p f hp hf
    obtain ⟨f, rfl⟩ : ∃ g, f = g + 1 := ⟨f - 1, by omega⟩
    have hl : (rotI s x).length = p.length := by rw [hp, List.append_nil]
    rw [rot_len] at hl
    have q : (ins s x).length ≤ p.length := by omega
    refine ⟨fun c hc => (by cases hc), fun _ => ?_⟩
    unfold fT_nextOffer_2
    simp (disch := first | assumption | omega | exact b2i_01 _ | exact Or.inl rfl | exact Or.inr rfl) only [b2 o, f2_0 o, p2_0 o, f2_1 o, f2_2 o, f2_3 o, p2_3 o, f2_4 o, p2_4 o, f2_5 o, p2_5 o, f2_6 o, p2_6 o, f2_7 o, p2_7 o, f2_8 o, p2_8 o, g2_1 o, a2_1 o, g2_2 o, a2_2 o, rI_uI, rI_uJ, rI_uR, rI_wI, rI_wJ, rJ_uJ, rJ_uI, rJ_uR, rJ_wI, rJ_wJ, rR_uR, rR_uI, rR_uJ, rR_wI, rR_wJ, qI_wI, qI_wJ, qI_uI, qI_uJ, qI_uR, qJ_wJ, qJ_wI, qJ_uI, qJ_uJ, qJ_uR, Option.bind_some, zcV_s, zcI_s, zcL_s, zrI, zrV, zrL, nI_mul8, nI_mul16, nI_mul200, nI_1, eq_self, Nat.reduceEqDiff, and_true, true_and, and_false, false_and, and_self, ite_true, ite_false, ↓reduceIte, Nat.add_zero, if_true, if_false, b2i_t, b2i_f, o2i_s, o2i_n, zdI_s, zdV_s, zdL_s, zcR_s, zcV_x, zcI_x, zcL_x, zcR_x, zrR_s, zth_s, nI_leI, nI_ltI, nI_eq, nI_eq0, nI_eqm1, b2i_eq0, h3, q]
  | cons c r ih =>
    intro p f hp hf
    obtain ⟨f, rfl⟩ : ∃ g, f = g + 1 := ⟨f - 1, by omega⟩
    rw [List.length_cons] at hf
    have hl : (rotI s x).length = p.length + (r.length + 1) := by rw [hp, List.length_append, List.length_cons]
    rw [rot_len] at hl
    have q : ¬ (ins s x).length ≤ p.length := by omega
    have hcm := mem_rot (mem_of_app hp)
    have hc := (mem_ins.mp hcm).1
    have hget : (ins s x)[if look s x + p.length < (ins s x).length then look s x + p.length else look s x + p.length - (ins s x).length]? = some c := by
      rw [← rot_get s x p.length (by omega)]
      exact getE hp
    have ih2 := ih (p ++ [c]) f (by rw [hp, List.append_assoc]; rfl) (by omega)
    rw [List.length_append, List.length_singleton] at ih2
    clear ih
    have hnk := Cls.nextKind (n := n) g hc (hd c hcm) (ho c hcm)
    have hnb : ∀ k, nextS s c = some k → k < 2 ^ 31 := fun k hk => by have := nextS_le w hk; omega
    have key : ∀ a, a < 16 → (ins s x)[a]? = some c → fT_nextOffer_32 (fT_nextOffer_2 f) (pv e t) n (pL e 2 x 0) (nI p.length) (nI a) = if s_held s c = none then (if nextS s c = none then fT_nextOffer_2 f (pv e t) n (pL e 2 x 0) (nI (p.length + 1)) else some (.inl (some (.int (nI a))), pv e t, n)) else fT_nextOffer_2 f (pv e t) n (pL e 2 x 0) (nI (p.length + 1)) := by
      intro a ha hga
      have hchd := ch_d (α := zR) (t := t) g.E hc (fun a => fS_nextKind (pv e t) n a) (fun a => fL_nextKind (pv e t) n a)
      unfold fT_nextOffer_32 fT_nextOffer_60
      generalize fT_nextOffer_2 f = R
      generalize fS_nextKind = GS at hchd hnk ⊢
      generalize fL_nextKind = GL at hchd hnk ⊢
      simp (disch := first | assumption | omega | exact b2i_01 _ | exact Or.inl rfl | exact Or.inr rfl) only [b2 o, f2_0 o, p2_0 o, f2_1 o, f2_2 o, f2_3 o, p2_3 o, f2_4 o, p2_4 o, f2_5 o, p2_5 o, f2_6 o, p2_6 o, f2_7 o, p2_7 o, f2_8 o, p2_8 o, g2_1 o, a2_1 o, g2_2 o, a2_2 o, rI_uI, rI_uJ, rI_uR, rI_wI, rI_wJ, rJ_uJ, rJ_uI, rJ_uR, rJ_wI, rJ_wJ, rR_uR, rR_uI, rR_uJ, rR_wI, rR_wJ, qI_wI, qI_wJ, qI_uI, qI_uJ, qI_uR, qJ_wJ, qJ_wI, qJ_uI, qJ_uJ, qJ_uR, Option.bind_some, zcV_s, zcI_s, zcL_s, zrI, zrV, zrL, nI_mul8, nI_mul16, nI_mul200, nI_1, eq_self, Nat.reduceEqDiff, and_true, true_and, and_false, false_and, and_self, ite_true, ite_false, ↓reduceIte, Nat.add_zero, if_true, if_false, b2i_t, b2i_f, o2i_s, o2i_n, zdI_s, zdV_s, zdL_s, zcR_s, zcV_x, zcI_x, zcL_x, zcR_x, zrR_s, zth_s, nI_leI, nI_ltI, nI_eq, nI_eq0, nI_eqm1, b2i_eq0, g.ri hx hga, g.fc2 hc, o2i_m1 (held_b w c)]
      rw [hchd (fun a => zdI a _), hnk]
      simp (disch := first | assumption | omega | exact b2i_01 _ | exact Or.inl rfl | exact Or.inr rfl) only [b2 o, f2_0 o, p2_0 o, f2_1 o, f2_2 o, f2_3 o, p2_3 o, f2_4 o, p2_4 o, f2_5 o, p2_5 o, f2_6 o, p2_6 o, f2_7 o, p2_7 o, f2_8 o, p2_8 o, g2_1 o, a2_1 o, g2_2 o, a2_2 o, rI_uI, rI_uJ, rI_uR, rI_wI, rI_wJ, rJ_uJ, rJ_uI, rJ_uR, rJ_wI, rJ_wJ, rR_uR, rR_uI, rR_uJ, rR_wI, rR_wJ, qI_wI, qI_wJ, qI_uI, qI_uJ, qI_uR, qJ_wJ, qJ_wI, qJ_uI, qJ_uJ, qJ_uR, Option.bind_some, zcV_s, zcI_s, zcL_s, zrI, zrV, zrL, nI_mul8, nI_mul16, nI_mul200, nI_1, eq_self, Nat.reduceEqDiff, and_true, true_and, and_false, false_and, and_self, ite_true, ite_false, ↓reduceIte, Nat.add_zero, if_true, if_false, b2i_t, b2i_f, o2i_s, o2i_n, zdI_s, zdV_s, zdL_s, zcR_s, zcV_x, zcI_x, zcL_x, zcR_x, zrR_s, zth_s, nI_leI, nI_ltI, nI_eq, nI_eq0, nI_eqm1, b2i_eq0, o2i_m1 hnb]
    have hun : fT_nextOffer_2 (f + 1) (pv e t) n (pL e 2 x 0) (nI p.length) = fT_nextOffer_32 (fT_nextOffer_2 f) (pv e t) n (pL e 2 x 0) (nI p.length) (nI (if look s x + p.length < (ins s x).length then look s x + p.length else look s x + p.length - (ins s x).length)) := by
      generalize hR : fT_nextOffer_32 (fT_nextOffer_2 f) = R
      unfold fT_nextOffer_2
      rw [hR]
      simp (disch := first | assumption | omega | exact b2i_01 _ | exact Or.inl rfl | exact Or.inr rfl) only [b2 o, f2_0 o, p2_0 o, f2_1 o, f2_2 o, f2_3 o, p2_3 o, f2_4 o, p2_4 o, f2_5 o, p2_5 o, f2_6 o, p2_6 o, f2_7 o, p2_7 o, f2_8 o, p2_8 o, g2_1 o, a2_1 o, g2_2 o, a2_2 o, rI_uI, rI_uJ, rI_uR, rI_wI, rI_wJ, rJ_uJ, rJ_uI, rJ_uR, rJ_wI, rJ_wJ, rR_uR, rR_uI, rR_uJ, rR_wI, rR_wJ, qI_wI, qI_wJ, qI_uI, qI_uJ, qI_uR, qJ_wJ, qJ_wI, qJ_uI, qJ_uJ, qJ_uR, Option.bind_some, zcV_s, zcI_s, zcL_s, zrI, zrV, zrL, nI_mul8, nI_mul16, nI_mul200, nI_1, eq_self, Nat.reduceEqDiff, and_true, true_and, and_false, false_and, and_self, ite_true, ite_false, ↓reduceIte, Nat.add_zero, if_true, if_false, b2i_t, b2i_f, o2i_s, o2i_n, zdI_s, zdV_s, zdL_s, zcR_s, zcV_x, zcI_x, zcL_x, zcR_x, zrR_s, zth_s, nI_leI, nI_ltI, nI_eq, nI_eq0, nI_eqm1, b2i_eq0, h3, h5, q, nI_add]
      by_cases q2 : look s x + p.length < (ins s x).length
      · rw [if_pos q2, if_pos q2]
      · rw [if_neg q2, if_neg q2, pk_sub (by omega)]
    rw [hun, key _ (by split <;> omega) hget]
    by_cases q1 : s_held s c = none
    · rw [if_pos q1]
      cases q2 : nextS s c with
      | none =>
        rw [if_pos rfl, List.find?_cons_of_neg (by rw [q2]; simp)]
        exact ih2
      | some k =>
        rw [if_neg (by intro z; cases z), List.find?_cons_of_pos (by rw [q1, q2]; rfl)]
        refine ⟨fun j hj => ?_, fun z => by cases z⟩
        cases hj
        exact ⟨_, hget, rfl⟩
    · have e1 : (s_held s c).isNone = false := by
        cases hh : s_held s c with
        | none => exact absurd hh q1
        | some m => rfl
      rw [if_neg q1, List.find?_cons_of_neg (by rw [e1]; simp)]
      exact ih2
theorem fT_nextOffer_eq (g : Cls e t s) (w : Wf s) {x : Nat} (hx : x < s_N s) (hC : 0 < s_C s) (hd : ∀ c, c ∈ ins s x → DueOk s c) (ho : ∀ c, c ∈ ins s x → OvOk s c) : (∀ c, pickS s x = some c → ∃ a, (ins s x)[a]? = some c ∧ fT_nextOffer (pv e t) n (pL e 2 x 0) = some (.inl (some (.int (nI a))), pv e t, n)) ∧ (pickS s x = none → fT_nextOffer (pv e t) n (pL e 2 x 0) = some (.inl (some (.int (-1))), pv e t, n)) := by
  rw [pick_rot w x hC]
  have hl := rot_len s x
  have := ins_le w x
  exact fT_nextOffer_2_eq (n := n) g w hx hd ho (rotI s x) [] zF rfl (zF_big (by omega))
/-- the channels into a task come in rising order -/
theorem look_next (s : zSt) (x : Nat) {a c : Nat} (h : (ins s x)[a]? = some c) : look (u_latest s (fu (s_latest s) x (some c))) x = if a + 1 < (ins s x).length then a + 1 else 0 := by
  obtain ⟨ha, hac⟩ := List.getElem?_eq_some_iff.mp h
  have hsort : (ins s x).Pairwise (· < ·) := List.Pairwise.sublist (List.filter_sublist) (List.pairwise_lt_range)
  have hcount : ((ins s x).filter fun j => decide (j ≤ c)).length = a + 1 := by
    have e1 : ins s x = (ins s x).take (a + 1) ++ (ins s x).drop (a + 1) := (List.take_append_drop _ _).symm
    have hp := hsort
    rw [List.pairwise_iff_getElem] at hp
    rw [e1, List.filter_append]
    have f1 : ((ins s x).take (a + 1)).filter (fun j => decide (j ≤ c)) = (ins s x).take (a + 1) := List.filter_eq_self.mpr fun j hj => by
      obtain ⟨i, hi, hij⟩ := List.mem_iff_getElem.mp hj
      rw [List.length_take] at hi
      rw [List.getElem_take] at hij
      refine decide_eq_true ?_
      by_cases q : i = a
      · subst q; omega
      · have := hp i a (by omega) ha (by omega)
        omega
    have f2 : ((ins s x).drop (a + 1)).filter (fun j => decide (j ≤ c)) = [] := List.filter_eq_nil_iff.mpr fun j hj => by
      obtain ⟨i, hi, hij⟩ := List.mem_iff_getElem.mp hj
      rw [List.length_drop] at hi
      rw [List.getElem_drop] at hij
      have := hp a (a + 1 + i) ha (by omega) (by omega)
      simp
      omega
    rw [f1, f2, List.append_nil, List.length_take]
    omega
  unfold look
  rw [su_latest, fu_self, d_ins_latest]
  dsimp only
  rw [hcount]
set_option maxHeartbeats 2000000 in
theorem fT_lookFromBehind_eq {Mf : Nat → Nat} {due : Nat → List Nat} (g : ClsG e t s Mf due) (w : Wf s) {x a c : Nat} (hx : x < s_N s) (h : (ins s x)[a]? = some c) : ∃ t', fT_lookFromBehind (pv e t) n (pL e 2 x 0) (nI a) = some (.inl none, pv e t', n) ∧ ClsG e t' (u_latest s (fu (s_latest s) x (some c))) Mf due ∧ Fr PC t t' := by
  have o := g.o2 hx
  have h3 := (g.T x hx).2.1
  have hl16 := ins_le w x
  have ha := (List.getElem?_eq_some_iff.mp h).1
  have g1 := g.ulatest hx (some c)
  rw [look_next s x h] at g1
  refine ⟨_, ?_, g1, (fr_p3 (k := 2) (i := x)).c (by decide)⟩
  unfold fT_lookFromBehind fT_lookFromBehind_18
  simp (disch := first | assumption | omega | exact b2i_01 _ | exact Or.inl rfl | exact Or.inr rfl) only [b2 o, f2_0 o, p2_0 o, f2_1 o, f2_2 o, f2_3 o, p2_3 o, f2_4 o, p2_4 o, f2_5 o, p2_5 o, f2_6 o, p2_6 o, f2_7 o, p2_7 o, f2_8 o, p2_8 o, g2_1 o, a2_1 o, g2_2 o, a2_2 o, rI_uI, rI_uJ, rI_uR, rI_wI, rI_wJ, rJ_uJ, rJ_uI, rJ_uR, rJ_wI, rJ_wJ, rR_uR, rR_uI, rR_uJ, rR_wI, rR_wJ, qI_wI, qI_wJ, qI_uI, qI_uJ, qI_uR, qJ_wJ, qJ_wI, qJ_uI, qJ_uJ, qJ_uR, Option.bind_some, zcV_s, zcI_s, zcL_s, zrI, zrV, zrL, nI_mul8, nI_mul16, nI_mul200, nI_1, eq_self, Nat.reduceEqDiff, and_true, true_and, and_false, false_and, and_self, ite_true, ite_false, ↓reduceIte, Nat.add_zero, if_true, if_false, b2i_t, b2i_f, o2i_s, o2i_n, zdI_s, zdV_s, zdL_s, zcR_s, zcV_x, zcI_x, zcL_x, zcR_x, zrR_s, zth_s, nI_leI, nI_ltI, nI_eq, nI_eq0, nI_eqm1, b2i_eq0, h3]
  by_cases q : a + 1 < (ins s x).length
  · rw [if_neg (by omega), if_pos q]
  · rw [if_pos (by omega), if_neg q]
    rfl
end PO
