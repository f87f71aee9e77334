/-! the class's small objects: acks, lines, sources, marks -/
theorem zdI_s {v : Int32} {V : zV} {n : Nat} {K : Int32 → zV → Nat → Option zR} : zdI (some (.inl (some (.int v)), V, n)) K = K v V n := rfl
theorem zdL_s {v : Int64} {V : zV} {n : Nat} {K : Int64 → zV → Nat → Option zR} : zdL (some (.inl (some (.long v)), V, n)) K = K v V n := rfl
theorem zdV_s {V : zV} {n : Nat} {K : zV → Nat → Option zR} : zdV (some (.inl none, V, n)) K = K V n := rfl
theorem zcR_s {a : Nat} {V : zV} {n : Nat} {K : Option Nat → zV → Nat → Option zR} : zcR (some (.inl (some (.ref a)), V, n)) K = K (some a) V n := rfl
theorem zcV_x {E : String} {V : zV} {n : Nat} {K : zV → Nat → Option zR} : zcV (some (.inr E, V, n)) K = some (.inr E, V, n) := rfl
theorem zcI_x {E : String} {V : zV} {n : Nat} {K : Int32 → zV → Nat → Option zR} : zcI (some (.inr E, V, n)) K = some (.inr E, V, n) := rfl
theorem zcL_x {E : String} {V : zV} {n : Nat} {K : Int64 → zV → Nat → Option zR} : zcL (some (.inr E, V, n)) K = some (.inr E, V, n) := rfl
theorem zcR_x {E : String} {V : zV} {n : Nat} {K : Option Nat → zV → Nat → Option zR} : zcR (some (.inr E, V, n)) K = some (.inr E, V, n) := rfl
theorem zrR_s {a : Nat} {V : zV} {n : Nat} : zrR (some a) V n = some (.inl (some (.ref a)), V, n) := rfl
theorem zth_s {E : String} {V : zV} {n : Nat} : zth E V n = some (.inr E, V, n) := rfl
/-- only the object (k, i) changes -/
def PO (k i : Nat) : Nat → Nat → Prop := fun k' i' => k' = k ∧ i' = i
theorem po (k i : Nat) : PO k i k i := ⟨rfl, rfl⟩
theorem Fr.same {k i : Nat} {t t' : pS} (F : Fr (PO k i) t t') {k' i' : Nat} (h : ¬ (k' = k ∧ i' = i)) : same t t' k' i' := F k' i' h
/-- a call without an answer -/
def VO (F : Option zR) (e : pE) (t' : pS) (n : Nat) : Prop := F = some (.inl none, pv e t', n)
/-- the acks, in a ring -/
def cAo (t : pS) (l : List (Nat × Nat)) : Prop := ∃ f, f < 520 ∧ qI t 1 0 2 = nI f ∧ qI t 1 0 3 = nI l.length ∧ l.length ≤ 520 ∧ ∀ i z, l[i]? = some z → rI t 1 0 1 ((f + i) % 520) = nI z.1 ∧ rI t 1 0 2 ((f + i) % 520) = nI z.2
theorem cAo.fr {t t' : pS} {l : List (Nat × Nat)} (h : cAo t l) (F : same t t' 1 0) : cAo t' l := by
  obtain ⟨f, h1, h2, h3, h4, h5⟩ := h
  refine ⟨f, h1, by rw [F.1]; exact h2, by rw [F.1]; exact h3, h4, ?_⟩
  rw [F.2.2.1]
  exact h5
theorem ring_ne {f i L : Nat} (hi : i < L) (hL : L < 520) : (f + i) % 520 ≠ (f + L) % 520 := by omega
section PO
variable {e : pE} {t : pS} {n : Nat}
set_option maxHeartbeats 2000000 in
theorem fK_add_eq (o : o1K e 0 0) {l : List (Nat × Nat)} (h : cAo t l) (hl : l.length < 520) (m x : Nat) : ∃ t', fK_add (pv e t) n (pL e 1 0 0) (nI m) (nI x) = some (.inl none, pv e t', n) ∧ cAo t' (l ++ [(m, x)]) ∧ Fr (PO 1 0) t t' := by
  obtain ⟨f, h1, h2, h3, h4, h5⟩ := h
  have key : ∀ p, p < 520 → p = (f + l.length) % 520 → ∃ t', fK_add_33 (pv e t) n (pL e 1 0 0) (nI m) (nI x) (nI p) = some (.inl none, pv e t', n) ∧ cAo t' (l ++ [(m, x)]) ∧ Fr (PO 1 0) t t' := by
    intro p hp he
    unfold fK_add_33
    simp (disch := first | assumption | omega | exact b2i_01 _ | exact Or.inl rfl | exact Or.inr rfl) only [b1 o, f1_0 o, f1_1 o, f1_2 o, p1_2 o, f1_3 o, p1_3 o, g1_1 o, a1_1 o, s1_1 o, g1_2 o, a1_2 o, s1_2 o, rI_uI, rI_uJ, rI_uR, rI_wI, rI_wJ, rJ_uJ, rJ_uI, rJ_uR, rJ_wI, rJ_wJ, rR_uR, rR_uI, rR_uJ, rR_wI, rR_wJ, qI_wI, qI_wJ, qI_uI, qI_uJ, qI_uR, qJ_wJ, qJ_wI, qJ_uI, qJ_uJ, qJ_uR, Option.bind_some, zcV_s, zcI_s, zcL_s, zrI, zrV, zrL, nI_mul8, nI_mul16, nI_mul200, nI_1, eq_self, Nat.reduceEqDiff, and_true, true_and, and_false, false_and, and_self, ite_true, ite_false, ↓reduceIte, Nat.add_zero, if_true, if_false, b2i_t, b2i_f, o2i_s, o2i_n, zdI_s, zdV_s, zdL_s, zcR_s, zcV_x, zcI_x, zcL_x, zcR_x, zrR_s, zth_s, nI_leI, nI_ltI, nI_eq, nI_eq0, nI_eqm1, b2i_eq0, h3, upd_fu]
    refine ⟨_, rfl, ⟨f, h1, ?_, ?_, ?_, ?_⟩, Fr.wI (po 1 0) (Fr.uI (po 1 0) (Fr.uI (po 1 0) (Fr.refl _ _)))⟩
    · simp only [rI_uI, rI_uJ, rI_uR, rI_wI, rI_wJ, rJ_uJ, rJ_uI, rJ_uR, rJ_wI, rJ_wJ, rR_uR, rR_uI, rR_uJ, rR_wI, rR_wJ, qI_wI, qI_wJ, qI_uI, qI_uJ, qI_uR, qJ_wJ, qJ_wI, qJ_uI, qJ_uJ, qJ_uR, Option.bind_some, zcV_s, zcI_s, zcL_s, zrI, zrV, zrL, nI_mul8, nI_mul16, nI_mul200, nI_1, eq_self, Nat.reduceEqDiff, and_true, true_and, and_false, false_and, and_self, ite_true, ite_false, ↓reduceIte, Nat.add_zero, if_true, if_false, b2i_t, b2i_f, o2i_s, o2i_n]
      exact h2
    · simp only [rI_uI, rI_uJ, rI_uR, rI_wI, rI_wJ, rJ_uJ, rJ_uI, rJ_uR, rJ_wI, rJ_wJ, rR_uR, rR_uI, rR_uJ, rR_wI, rR_wJ, qI_wI, qI_wJ, qI_uI, qI_uJ, qI_uR, qJ_wJ, qJ_wI, qJ_uI, qJ_uJ, qJ_uR, Option.bind_some, zcV_s, zcI_s, zcL_s, zrI, zrV, zrL, nI_mul8, nI_mul16, nI_mul200, nI_1, eq_self, Nat.reduceEqDiff, and_true, true_and, and_false, false_and, and_self, ite_true, ite_false, ↓reduceIte, Nat.add_zero, if_true, if_false, b2i_t, b2i_f, o2i_s, o2i_n]
      rw [List.length_append, List.length_singleton]
    · rw [List.length_append, List.length_singleton]; omega
    · intro i z hi
      simp only [rI_uI, rI_uJ, rI_uR, rI_wI, rI_wJ, rJ_uJ, rJ_uI, rJ_uR, rJ_wI, rJ_wJ, rR_uR, rR_uI, rR_uJ, rR_wI, rR_wJ, qI_wI, qI_wJ, qI_uI, qI_uJ, qI_uR, qJ_wJ, qJ_wI, qJ_uI, qJ_uJ, qJ_uR, Option.bind_some, zcV_s, zcI_s, zcL_s, zrI, zrV, zrL, nI_mul8, nI_mul16, nI_mul200, nI_1, eq_self, Nat.reduceEqDiff, and_true, true_and, and_false, false_and, and_self, ite_true, ite_false, ↓reduceIte, Nat.add_zero, if_true, if_false, b2i_t, b2i_f, o2i_s, o2i_n]
      have hlt : i < (l ++ [(m, x)]).length := (List.getElem?_eq_some_iff.mp hi).1
      rw [List.length_append, List.length_singleton] at hlt
      by_cases q : i = l.length
      · rw [q, List.getElem?_append_right (Nat.le_refl _), Nat.sub_self] at hi
        cases hi
        rw [q, ← he, fu_self, fu_self]
        exact ⟨rfl, rfl⟩
      · rw [List.getElem?_append_left (by omega)] at hi
        have hne : (f + i) % 520 ≠ p := by rw [he]; exact ring_ne (by omega) hl
        rw [fu_ne _ _ hne, fu_ne _ _ hne]
        exact h5 i z hi
  have q1 : ¬ 520 ≤ l.length := by omega
  unfold fK_add
  generalize fK_add_33 = G at key ⊢
  simp (disch := first | assumption | omega | exact b2i_01 _ | exact Or.inl rfl | exact Or.inr rfl) only [b1 o, f1_0 o, f1_1 o, f1_2 o, p1_2 o, f1_3 o, p1_3 o, g1_1 o, a1_1 o, s1_1 o, g1_2 o, a1_2 o, s1_2 o, rI_uI, rI_uJ, rI_uR, rI_wI, rI_wJ, rJ_uJ, rJ_uI, rJ_uR, rJ_wI, rJ_wJ, rR_uR, rR_uI, rR_uJ, rR_wI, rR_wJ, qI_wI, qI_wJ, qI_uI, qI_uJ, qI_uR, qJ_wJ, qJ_wI, qJ_uI, qJ_uJ, qJ_uR, Option.bind_some, zcV_s, zcI_s, zcL_s, zrI, zrV, zrL, nI_mul8, nI_mul16, nI_mul200, nI_1, eq_self, Nat.reduceEqDiff, and_true, true_and, and_false, false_and, and_self, ite_true, ite_false, ↓reduceIte, Nat.add_zero, if_true, if_false, b2i_t, b2i_f, o2i_s, o2i_n, zdI_s, zdV_s, zdL_s, zcR_s, zcV_x, zcI_x, zcL_x, zcR_x, zrR_s, zth_s, nI_leI, nI_ltI, nI_eq, nI_eq0, nI_eqm1, b2i_eq0, h2, h3, nI_add, show (520 : Int32) = nI 520 from rfl, q1]
  by_cases q : f + l.length < 520
  · rw [if_pos q]
    exact key _ q (by omega)
  · rw [if_neg q]
    have e1 : nI (f + l.length) + -nI 520 = nI (f + l.length - 520) := by
      rw [← Int32.sub_eq_add_neg, pk_sub (by omega)]
    rw [e1]
    exact key _ (by omega) (by omega)
set_option maxHeartbeats 2000000 in
theorem fK_firstMark_eq (o : o1K e 0 0) {z : Nat × Nat} {l : List (Nat × Nat)} (h : cAo t (z :: l)) : fK_firstMark (pv e t) n (pL e 1 0 0) = some (.inl (some (.int (nI z.1))), pv e t, n) := by
  obtain ⟨f, h1, h2, h3, h4, h5⟩ := h
  have h6 := h5 0 z rfl
  rw [show (f + 0) % 520 = f by omega] at h6
  unfold fK_firstMark
  simp (disch := first | assumption | omega | exact b2i_01 _ | exact Or.inl rfl | exact Or.inr rfl) only [b1 o, f1_0 o, f1_1 o, f1_2 o, p1_2 o, f1_3 o, p1_3 o, g1_1 o, a1_1 o, s1_1 o, g1_2 o, a1_2 o, s1_2 o, rI_uI, rI_uJ, rI_uR, rI_wI, rI_wJ, rJ_uJ, rJ_uI, rJ_uR, rJ_wI, rJ_wJ, rR_uR, rR_uI, rR_uJ, rR_wI, rR_wJ, qI_wI, qI_wJ, qI_uI, qI_uJ, qI_uR, qJ_wJ, qJ_wI, qJ_uI, qJ_uJ, qJ_uR, Option.bind_some, zcV_s, zcI_s, zcL_s, zrI, zrV, zrL, nI_mul8, nI_mul16, nI_mul200, nI_1, eq_self, Nat.reduceEqDiff, and_true, true_and, and_false, false_and, and_self, ite_true, ite_false, ↓reduceIte, Nat.add_zero, if_true, if_false, b2i_t, b2i_f, o2i_s, o2i_n, zdI_s, zdV_s, zdL_s, zcR_s, zcV_x, zcI_x, zcL_x, zcR_x, zrR_s, zth_s, nI_leI, nI_ltI, nI_eq, nI_eq0, nI_eqm1, b2i_eq0, h2, h6.1]
set_option maxHeartbeats 2000000 in
theorem fK_firstTask_eq (o : o1K e 0 0) {z : Nat × Nat} {l : List (Nat × Nat)} (h : cAo t (z :: l)) : fK_firstTask (pv e t) n (pL e 1 0 0) = some (.inl (some (.int (nI z.2))), pv e t, n) := by
  obtain ⟨f, h1, h2, h3, h4, h5⟩ := h
  have h6 := h5 0 z rfl
  rw [show (f + 0) % 520 = f by omega] at h6
  unfold fK_firstTask
  simp (disch := first | assumption | omega | exact b2i_01 _ | exact Or.inl rfl | exact Or.inr rfl) only [b1 o, f1_0 o, f1_1 o, f1_2 o, p1_2 o, f1_3 o, p1_3 o, g1_1 o, a1_1 o, s1_1 o, g1_2 o, a1_2 o, s1_2 o, rI_uI, rI_uJ, rI_uR, rI_wI, rI_wJ, rJ_uJ, rJ_uI, rJ_uR, rJ_wI, rJ_wJ, rR_uR, rR_uI, rR_uJ, rR_wI, rR_wJ, qI_wI, qI_wJ, qI_uI, qI_uJ, qI_uR, qJ_wJ, qJ_wI, qJ_uI, qJ_uJ, qJ_uR, Option.bind_some, zcV_s, zcI_s, zcL_s, zrI, zrV, zrL, nI_mul8, nI_mul16, nI_mul200, nI_1, eq_self, Nat.reduceEqDiff, and_true, true_and, and_false, false_and, and_self, ite_true, ite_false, ↓reduceIte, Nat.add_zero, if_true, if_false, b2i_t, b2i_f, o2i_s, o2i_n, zdI_s, zdV_s, zdL_s, zcR_s, zcV_x, zcI_x, zcL_x, zcR_x, zrR_s, zth_s, nI_leI, nI_ltI, nI_eq, nI_eq0, nI_eqm1, b2i_eq0, h2, h6.2]
set_option maxHeartbeats 2000000 in
theorem fK_dropFirst_eq (o : o1K e 0 0) {z : Nat × Nat} {l : List (Nat × Nat)} (h : cAo t (z :: l)) : ∃ t', fK_dropFirst (pv e t) n (pL e 1 0 0) = some (.inl none, pv e t', n) ∧ cAo t' l ∧ Fr (PO 1 0) t t' := by
  obtain ⟨f, h1, h2, h3, h4, h5⟩ := h
  rw [List.length_cons] at h3 h4
  have q0 : ¬ nI (l.length + 1) ≤ 0 := by rw [show (0 : Int32) = nI 0 from rfl, nI_leI (by omega) (by decide)]; omega
  have e1 : nI (l.length + 1) - 1 = nI l.length := by rw [← nI_1, Int32.add_sub_cancel]
  have key : ∀ p, p < 520 → p = (f + 1) % 520 → cAo (wI (wI t 1 0 3 (nI l.length)) 1 0 2 (nI p)) l := by
    intro p hp he
    refine ⟨p, hp, ?_, ?_, by omega, ?_⟩
    · simp only [rI_uI, rI_uJ, rI_uR, rI_wI, rI_wJ, rJ_uJ, rJ_uI, rJ_uR, rJ_wI, rJ_wJ, rR_uR, rR_uI, rR_uJ, rR_wI, rR_wJ, qI_wI, qI_wJ, qI_uI, qI_uJ, qI_uR, qJ_wJ, qJ_wI, qJ_uI, qJ_uJ, qJ_uR, Option.bind_some, zcV_s, zcI_s, zcL_s, zrI, zrV, zrL, nI_mul8, nI_mul16, nI_mul200, nI_1, eq_self, Nat.reduceEqDiff, and_true, true_and, and_false, false_and, and_self, ite_true, ite_false, ↓reduceIte, Nat.add_zero, if_true, if_false, b2i_t, b2i_f, o2i_s, o2i_n]
    · simp only [rI_uI, rI_uJ, rI_uR, rI_wI, rI_wJ, rJ_uJ, rJ_uI, rJ_uR, rJ_wI, rJ_wJ, rR_uR, rR_uI, rR_uJ, rR_wI, rR_wJ, qI_wI, qI_wJ, qI_uI, qI_uJ, qI_uR, qJ_wJ, qJ_wI, qJ_uI, qJ_uJ, qJ_uR, Option.bind_some, zcV_s, zcI_s, zcL_s, zrI, zrV, zrL, nI_mul8, nI_mul16, nI_mul200, nI_1, eq_self, Nat.reduceEqDiff, and_true, true_and, and_false, false_and, and_self, ite_true, ite_false, ↓reduceIte, Nat.add_zero, if_true, if_false, b2i_t, b2i_f, o2i_s, o2i_n]
    · intro i y hi
      simp only [rI_uI, rI_uJ, rI_uR, rI_wI, rI_wJ, rJ_uJ, rJ_uI, rJ_uR, rJ_wI, rJ_wJ, rR_uR, rR_uI, rR_uJ, rR_wI, rR_wJ, qI_wI, qI_wJ, qI_uI, qI_uJ, qI_uR, qJ_wJ, qJ_wI, qJ_uI, qJ_uJ, qJ_uR, Option.bind_some, zcV_s, zcI_s, zcL_s, zrI, zrV, zrL, nI_mul8, nI_mul16, nI_mul200, nI_1, eq_self, Nat.reduceEqDiff, and_true, true_and, and_false, false_and, and_self, ite_true, ite_false, ↓reduceIte, Nat.add_zero, if_true, if_false, b2i_t, b2i_f, o2i_s, o2i_n]
      have := h5 (i + 1) y hi
      rw [show (f + (i + 1)) % 520 = (p + i) % 520 by omega] at this
      exact this
  unfold fK_dropFirst fK_dropFirst_40
  simp (disch := first | assumption | omega | exact b2i_01 _ | exact Or.inl rfl | exact Or.inr rfl) only [b1 o, f1_0 o, f1_1 o, f1_2 o, p1_2 o, f1_3 o, p1_3 o, g1_1 o, a1_1 o, s1_1 o, g1_2 o, a1_2 o, s1_2 o, rI_uI, rI_uJ, rI_uR, rI_wI, rI_wJ, rJ_uJ, rJ_uI, rJ_uR, rJ_wI, rJ_wJ, rR_uR, rR_uI, rR_uJ, rR_wI, rR_wJ, qI_wI, qI_wJ, qI_uI, qI_uJ, qI_uR, qJ_wJ, qJ_wI, qJ_uI, qJ_uJ, qJ_uR, Option.bind_some, zcV_s, zcI_s, zcL_s, zrI, zrV, zrL, nI_mul8, nI_mul16, nI_mul200, nI_1, eq_self, Nat.reduceEqDiff, and_true, true_and, and_false, false_and, and_self, ite_true, ite_false, ↓reduceIte, Nat.add_zero, if_true, if_false, b2i_t, b2i_f, o2i_s, o2i_n, zdI_s, zdV_s, zdL_s, zcR_s, zcV_x, zcI_x, zcL_x, zcR_x, zrR_s, zth_s, nI_leI, nI_ltI, nI_eq, nI_eq0, nI_eqm1, b2i_eq0, h2, h3, q0, e1, show (520 : Int32) = nI 520 from rfl]
  by_cases q : 520 ≤ f + 1
  · rw [if_pos q]
    exact ⟨_, rfl, key 0 (by omega) (by omega), Fr.wI (po 1 0) (Fr.wI (po 1 0) (Fr.refl _ _))⟩
  · rw [if_neg q]
    exact ⟨_, rfl, key (f + 1) (by omega) (by omega), Fr.wI (po 1 0) (Fr.wI (po 1 0) (Fr.refl _ _))⟩
set_option maxHeartbeats 2000000 in
theorem fK_clear_eq (o : o1K e 0 0) : ∃ t', fK_clear (pv e t) n (pL e 1 0 0) = some (.inl none, pv e t', n) ∧ cAo t' [] ∧ Fr (PO 1 0) t t' := by
  unfold fK_clear
  simp (disch := first | assumption | omega | exact b2i_01 _ | exact Or.inl rfl | exact Or.inr rfl) only [b1 o, f1_0 o, f1_1 o, f1_2 o, p1_2 o, f1_3 o, p1_3 o, g1_1 o, a1_1 o, s1_1 o, g1_2 o, a1_2 o, s1_2 o, rI_uI, rI_uJ, rI_uR, rI_wI, rI_wJ, rJ_uJ, rJ_uI, rJ_uR, rJ_wI, rJ_wJ, rR_uR, rR_uI, rR_uJ, rR_wI, rR_wJ, qI_wI, qI_wJ, qI_uI, qI_uJ, qI_uR, qJ_wJ, qJ_wI, qJ_uI, qJ_uJ, qJ_uR, Option.bind_some, zcV_s, zcI_s, zcL_s, zrI, zrV, zrL, nI_mul8, nI_mul16, nI_mul200, nI_1, eq_self, Nat.reduceEqDiff, and_true, true_and, and_false, false_and, and_self, ite_true, ite_false, ↓reduceIte, Nat.add_zero, if_true, if_false, b2i_t, b2i_f, o2i_s, o2i_n, zdI_s, zdV_s, zdL_s, zcR_s, zcV_x, zcI_x, zcL_x, zcR_x, zrR_s, zth_s, nI_leI, nI_ltI, nI_eq, nI_eq0, nI_eqm1, b2i_eq0]
  refine ⟨_, rfl, ⟨0, by omega, ?_, ?_, by simp, fun i z hi => by simp at hi⟩, Fr.wI (po 1 0) (Fr.wI (po 1 0) (Fr.refl _ _))⟩
  · simp only [rI_uI, rI_uJ, rI_uR, rI_wI, rI_wJ, rJ_uJ, rJ_uI, rJ_uR, rJ_wI, rJ_wJ, rR_uR, rR_uI, rR_uJ, rR_wI, rR_wJ, qI_wI, qI_wJ, qI_uI, qI_uJ, qI_uR, qJ_wJ, qJ_wI, qJ_uI, qJ_uJ, qJ_uR, Option.bind_some, zcV_s, zcI_s, zcL_s, zrI, zrV, zrL, nI_mul8, nI_mul16, nI_mul200, nI_1, eq_self, Nat.reduceEqDiff, and_true, true_and, and_false, false_and, and_self, ite_true, ite_false, ↓reduceIte, Nat.add_zero, if_true, if_false, b2i_t, b2i_f, o2i_s, o2i_n]
    rfl
  · simp only [rI_uI, rI_uJ, rI_uR, rI_wI, rI_wJ, rJ_uJ, rJ_uI, rJ_uR, rJ_wI, rJ_wJ, rR_uR, rR_uI, rR_uJ, rR_wI, rR_wJ, qI_wI, qI_wJ, qI_uI, qI_uJ, qI_uR, qJ_wJ, qJ_wI, qJ_uI, qJ_uJ, qJ_uR, Option.bind_some, zcV_s, zcI_s, zcL_s, zrI, zrV, zrL, nI_mul8, nI_mul16, nI_mul200, nI_1, eq_self, Nat.reduceEqDiff, and_true, true_and, and_false, false_and, and_self, ite_true, ite_false, ↓reduceIte, Nat.add_zero, if_true, if_false, b2i_t, b2i_f, o2i_s, o2i_n]
    rfl
end PO
/-- a line's things -/
def cLo (t : pS) (c : Nat) (q : List (Nat × Int64)) : Prop := hL (rI t 4 c 1) 0 q (fun z => nI z.1) ∧ hL (rJ t 4 c 2) 0 q (fun z => z.2) ∧ qI t 4 c 6 = nI q.length ∧ q.length ≤ 9
theorem cLo.fr {t t' : pS} {c : Nat} {q : List (Nat × Int64)} (h : cLo t c q) (F : same t t' 4 c) : cLo t' c q := by
  unfold cLo
  rw [F.1, F.2.2.1, F.2.2.2.1]
  exact h
theorem hL0 {α β : Type} {f : Nat → α} {z : β} {l : List β} {g : β → α} (h : hL f 0 (z :: l) g) : f 0 = g z := h 0 z rfl
theorem hL_cpy {α β : Type} {f : Nat → α} {z : β} {l : List β} {g : β → α} (h : hL f 0 (z :: l) g) : hL (va_cpy f f 1 0 l.length) 0 l g := by
  intro i y hi
  have hlt := (List.getElem?_eq_some_iff.mp hi).1
  rw [Nat.zero_add, pk_cpy_in (by omega) (by omega)]
  have := h (i + 1) y hi
  rw [show 0 + (i + 1) = 1 + (i - 0) by omega] at this
  exact this
section PO
variable {e : pE} {t : pS} {n c : Nat}
set_option maxHeartbeats 2000000 in
theorem fL_put_eq (o : o4K e c 0) {q : List (Nat × Int64)} (h : cLo t c q) (hl : q.length < 9) (k : Nat) (v : Int64) : ∃ t', fL_put (pv e t) n (pL e 4 c 0) (nI k) v = some (.inl none, pv e t', n) ∧ cLo t' c (q ++ [(k, v)]) ∧ Fr (PO 4 c) t t' ∧ (∀ f, f ≤ 3 → qI t' 4 c f = qI t 4 c f) := by
  obtain ⟨h1, h2, h3, h4⟩ := h
  have q1 : ¬ 9 ≤ q.length := by omega
  unfold fL_put
  simp (disch := first | assumption | omega | exact b2i_01 _ | exact Or.inl rfl | exact Or.inr rfl) only [b4 o, bc4 o, f4_0 o, p4_0 o, f4_1 o, p4_1 o, f4_2 o, p4_2 o, f4_3 o, p4_3 o, f4_4 o, f4_5 o, f4_6 o, p4_6 o, fc4_0 o, pc4_0 o, fc4_1 o, pc4_1 o, fc4_2 o, pc4_2 o, fc4_3 o, pc4_3 o, g4_1 o, z4_1 o, a4_1 o, s4_1 o, g4_2 o, z4_2 o, a4_2 o, s4_2 o, cp4_1 o, cp4_2 o, rI_uI, rI_uJ, rI_uR, rI_wI, rI_wJ, rJ_uJ, rJ_uI, rJ_uR, rJ_wI, rJ_wJ, rR_uR, rR_uI, rR_uJ, rR_wI, rR_wJ, qI_wI, qI_wJ, qI_uI, qI_uJ, qI_uR, qJ_wJ, qJ_wI, qJ_uI, qJ_uJ, qJ_uR, Option.bind_some, zcV_s, zcI_s, zcL_s, zrI, zrV, zrL, nI_mul8, nI_mul16, nI_mul200, nI_1, eq_self, Nat.reduceEqDiff, and_true, true_and, and_false, false_and, and_self, ite_true, ite_false, ↓reduceIte, Nat.add_zero, if_true, if_false, b2i_t, b2i_f, o2i_s, o2i_n, zdI_s, zdV_s, zdL_s, zcR_s, zcV_x, zcI_x, zcL_x, zcR_x, zrR_s, zth_s, nI_leI, nI_ltI, nI_eq, nI_eq0, nI_eqm1, b2i_eq0, h3, q1, upd_fu, updL_fu]
  refine ⟨_, rfl, ⟨?_, ?_, ?_, ?_⟩, Fr.wI (po 4 c) (Fr.uJ (po 4 c) (Fr.uI (po 4 c) (Fr.refl _ _))), fun f hf => ?_⟩
  · simp only [rI_uI, rI_uJ, rI_uR, rI_wI, rI_wJ, rJ_uJ, rJ_uI, rJ_uR, rJ_wI, rJ_wJ, rR_uR, rR_uI, rR_uJ, rR_wI, rR_wJ, qI_wI, qI_wJ, qI_uI, qI_uJ, qI_uR, qJ_wJ, qJ_wI, qJ_uI, qJ_uJ, qJ_uR, Option.bind_some, zcV_s, zcI_s, zcL_s, zrI, zrV, zrL, nI_mul8, nI_mul16, nI_mul200, nI_1, eq_self, Nat.reduceEqDiff, and_true, true_and, and_false, false_and, and_self, ite_true, ite_false, ↓reduceIte, Nat.add_zero, if_true, if_false, b2i_t, b2i_f, o2i_s, o2i_n]
    exact hL_snoc h1 (Nat.zero_add _).symm rfl
  · simp only [rI_uI, rI_uJ, rI_uR, rI_wI, rI_wJ, rJ_uJ, rJ_uI, rJ_uR, rJ_wI, rJ_wJ, rR_uR, rR_uI, rR_uJ, rR_wI, rR_wJ, qI_wI, qI_wJ, qI_uI, qI_uJ, qI_uR, qJ_wJ, qJ_wI, qJ_uI, qJ_uJ, qJ_uR, Option.bind_some, zcV_s, zcI_s, zcL_s, zrI, zrV, zrL, nI_mul8, nI_mul16, nI_mul200, nI_1, eq_self, Nat.reduceEqDiff, and_true, true_and, and_false, false_and, and_self, ite_true, ite_false, ↓reduceIte, Nat.add_zero, if_true, if_false, b2i_t, b2i_f, o2i_s, o2i_n]
    exact hL_snoc h2 (Nat.zero_add _).symm rfl
  · simp only [rI_uI, rI_uJ, rI_uR, rI_wI, rI_wJ, rJ_uJ, rJ_uI, rJ_uR, rJ_wI, rJ_wJ, rR_uR, rR_uI, rR_uJ, rR_wI, rR_wJ, qI_wI, qI_wJ, qI_uI, qI_uJ, qI_uR, qJ_wJ, qJ_wI, qJ_uI, qJ_uJ, qJ_uR, Option.bind_some, zcV_s, zcI_s, zcL_s, zrI, zrV, zrL, nI_mul8, nI_mul16, nI_mul200, nI_1, eq_self, Nat.reduceEqDiff, and_true, true_and, and_false, false_and, and_self, ite_true, ite_false, ↓reduceIte, Nat.add_zero, if_true, if_false, b2i_t, b2i_f, o2i_s, o2i_n]
    rw [List.length_append, List.length_singleton]
  · rw [List.length_append, List.length_singleton]; omega
  · simp only [rI_uI, rI_uJ, rI_uR, rI_wI, rI_wJ, rJ_uJ, rJ_uI, rJ_uR, rJ_wI, rJ_wJ, rR_uR, rR_uI, rR_uJ, rR_wI, rR_wJ, qI_wI, qI_wJ, qI_uI, qI_uJ, qI_uR, qJ_wJ, qJ_wI, qJ_uI, qJ_uJ, qJ_uR, Option.bind_some, zcV_s, zcI_s, zcL_s, zrI, zrV, zrL, nI_mul8, nI_mul16, nI_mul200, nI_1, eq_self, Nat.reduceEqDiff, and_true, true_and, and_false, false_and, and_self, ite_true, ite_false, ↓reduceIte, Nat.add_zero, if_true, if_false, b2i_t, b2i_f, o2i_s, o2i_n]
    exact if_neg (by omega)
set_option maxHeartbeats 2000000 in
theorem fL_nextKind_eq (o : o4K e c 0) {q : List (Nat × Int64)} (h : cLo t c q) : fL_nextKind (pv e t) n (pL e 4 c 0) = some (.inl (some (.int (o2i (hdK q)))), pv e t, n) := by
  obtain ⟨h1, h2, h3, h4⟩ := h
  unfold fL_nextKind
  cases q with
  | nil =>
    rw [List.length_nil, nI0] at h3
    simp (disch := first | assumption | omega | exact b2i_01 _ | exact Or.inl rfl | exact Or.inr rfl) only [b4 o, bc4 o, f4_0 o, p4_0 o, f4_1 o, p4_1 o, f4_2 o, p4_2 o, f4_3 o, p4_3 o, f4_4 o, f4_5 o, f4_6 o, p4_6 o, fc4_0 o, pc4_0 o, fc4_1 o, pc4_1 o, fc4_2 o, pc4_2 o, fc4_3 o, pc4_3 o, g4_1 o, z4_1 o, a4_1 o, s4_1 o, g4_2 o, z4_2 o, a4_2 o, s4_2 o, cp4_1 o, cp4_2 o, rI_uI, rI_uJ, rI_uR, rI_wI, rI_wJ, rJ_uJ, rJ_uI, rJ_uR, rJ_wI, rJ_wJ, rR_uR, rR_uI, rR_uJ, rR_wI, rR_wJ, qI_wI, qI_wJ, qI_uI, qI_uJ, qI_uR, qJ_wJ, qJ_wI, qJ_uI, qJ_uJ, qJ_uR, Option.bind_some, zcV_s, zcI_s, zcL_s, zrI, zrV, zrL, nI_mul8, nI_mul16, nI_mul200, nI_1, eq_self, Nat.reduceEqDiff, and_true, true_and, and_false, false_and, and_self, ite_true, ite_false, ↓reduceIte, Nat.add_zero, if_true, if_false, b2i_t, b2i_f, o2i_s, o2i_n, zdI_s, zdV_s, zdL_s, zcR_s, zcV_x, zcI_x, zcL_x, zcR_x, zrR_s, zth_s, nI_leI, nI_ltI, nI_eq, nI_eq0, nI_eqm1, b2i_eq0, h3, le00]
    rfl
  | cons z l =>
    have q0 : ¬ nI (z :: l).length ≤ 0 := by rw [show (0 : Int32) = nI 0 from rfl, nI_leI (by omega) (by decide), List.length_cons]; omega
    simp (disch := first | assumption | omega | exact b2i_01 _ | exact Or.inl rfl | exact Or.inr rfl) only [b4 o, bc4 o, f4_0 o, p4_0 o, f4_1 o, p4_1 o, f4_2 o, p4_2 o, f4_3 o, p4_3 o, f4_4 o, f4_5 o, f4_6 o, p4_6 o, fc4_0 o, pc4_0 o, fc4_1 o, pc4_1 o, fc4_2 o, pc4_2 o, fc4_3 o, pc4_3 o, g4_1 o, z4_1 o, a4_1 o, s4_1 o, g4_2 o, z4_2 o, a4_2 o, s4_2 o, cp4_1 o, cp4_2 o, rI_uI, rI_uJ, rI_uR, rI_wI, rI_wJ, rJ_uJ, rJ_uI, rJ_uR, rJ_wI, rJ_wJ, rR_uR, rR_uI, rR_uJ, rR_wI, rR_wJ, qI_wI, qI_wJ, qI_uI, qI_uJ, qI_uR, qJ_wJ, qJ_wI, qJ_uI, qJ_uJ, qJ_uR, Option.bind_some, zcV_s, zcI_s, zcL_s, zrI, zrV, zrL, nI_mul8, nI_mul16, nI_mul200, nI_1, eq_self, Nat.reduceEqDiff, and_true, true_and, and_false, false_and, and_self, ite_true, ite_false, ↓reduceIte, Nat.add_zero, if_true, if_false, b2i_t, b2i_f, o2i_s, o2i_n, zdI_s, zdV_s, zdL_s, zcR_s, zcV_x, zcI_x, zcL_x, zcR_x, zrR_s, zth_s, nI_leI, nI_ltI, nI_eq, nI_eq0, nI_eqm1, b2i_eq0, h3, q0, hL0 h1]
    rfl
set_option maxHeartbeats 2000000 in
theorem fL_nextValue_eq (o : o4K e c 0) {q : List (Nat × Int64)} (h : cLo t c q) : fL_nextValue (pv e t) n (pL e 4 c 0) = some (.inl (some (.long (hdV q))), pv e t, n) := by
  obtain ⟨h1, h2, h3, h4⟩ := h
  unfold fL_nextValue
  cases q with
  | nil =>
    rw [List.length_nil, nI0] at h3
    simp (disch := first | assumption | omega | exact b2i_01 _ | exact Or.inl rfl | exact Or.inr rfl) only [b4 o, bc4 o, f4_0 o, p4_0 o, f4_1 o, p4_1 o, f4_2 o, p4_2 o, f4_3 o, p4_3 o, f4_4 o, f4_5 o, f4_6 o, p4_6 o, fc4_0 o, pc4_0 o, fc4_1 o, pc4_1 o, fc4_2 o, pc4_2 o, fc4_3 o, pc4_3 o, g4_1 o, z4_1 o, a4_1 o, s4_1 o, g4_2 o, z4_2 o, a4_2 o, s4_2 o, cp4_1 o, cp4_2 o, rI_uI, rI_uJ, rI_uR, rI_wI, rI_wJ, rJ_uJ, rJ_uI, rJ_uR, rJ_wI, rJ_wJ, rR_uR, rR_uI, rR_uJ, rR_wI, rR_wJ, qI_wI, qI_wJ, qI_uI, qI_uJ, qI_uR, qJ_wJ, qJ_wI, qJ_uI, qJ_uJ, qJ_uR, Option.bind_some, zcV_s, zcI_s, zcL_s, zrI, zrV, zrL, nI_mul8, nI_mul16, nI_mul200, nI_1, eq_self, Nat.reduceEqDiff, and_true, true_and, and_false, false_and, and_self, ite_true, ite_false, ↓reduceIte, Nat.add_zero, if_true, if_false, b2i_t, b2i_f, o2i_s, o2i_n, zdI_s, zdV_s, zdL_s, zcR_s, zcV_x, zcI_x, zcL_x, zcR_x, zrR_s, zth_s, nI_leI, nI_ltI, nI_eq, nI_eq0, nI_eqm1, b2i_eq0, h3, le00]
    rfl
  | cons z l =>
    have q0 : ¬ nI (z :: l).length ≤ 0 := by rw [show (0 : Int32) = nI 0 from rfl, nI_leI (by omega) (by decide), List.length_cons]; omega
    simp (disch := first | assumption | omega | exact b2i_01 _ | exact Or.inl rfl | exact Or.inr rfl) only [b4 o, bc4 o, f4_0 o, p4_0 o, f4_1 o, p4_1 o, f4_2 o, p4_2 o, f4_3 o, p4_3 o, f4_4 o, f4_5 o, f4_6 o, p4_6 o, fc4_0 o, pc4_0 o, fc4_1 o, pc4_1 o, fc4_2 o, pc4_2 o, fc4_3 o, pc4_3 o, g4_1 o, z4_1 o, a4_1 o, s4_1 o, g4_2 o, z4_2 o, a4_2 o, s4_2 o, cp4_1 o, cp4_2 o, rI_uI, rI_uJ, rI_uR, rI_wI, rI_wJ, rJ_uJ, rJ_uI, rJ_uR, rJ_wI, rJ_wJ, rR_uR, rR_uI, rR_uJ, rR_wI, rR_wJ, qI_wI, qI_wJ, qI_uI, qI_uJ, qI_uR, qJ_wJ, qJ_wI, qJ_uI, qJ_uJ, qJ_uR, Option.bind_some, zcV_s, zcI_s, zcL_s, zrI, zrV, zrL, nI_mul8, nI_mul16, nI_mul200, nI_1, eq_self, Nat.reduceEqDiff, and_true, true_and, and_false, false_and, and_self, ite_true, ite_false, ↓reduceIte, Nat.add_zero, if_true, if_false, b2i_t, b2i_f, o2i_s, o2i_n, zdI_s, zdV_s, zdL_s, zcR_s, zcV_x, zcI_x, zcL_x, zcR_x, zrR_s, zth_s, nI_leI, nI_ltI, nI_eq, nI_eq0, nI_eqm1, b2i_eq0, h3, q0, hL0 h2]
    rfl
set_option maxHeartbeats 2000000 in
theorem fL_passNext_eq (o : o4K e c 0) {z : Nat × Int64} {l : List (Nat × Int64)} (h : cLo t c (z :: l)) : ∃ t', fL_passNext (pv e t) n (pL e 4 c 0) = some (.inl none, pv e t', n) ∧ cLo t' c l ∧ Fr (PO 4 c) t t' ∧ (∀ f, f ≤ 3 → qI t' 4 c f = qI t 4 c f) := by
  obtain ⟨h1, h2, h3, h4⟩ := h
  rw [List.length_cons] at h3 h4
  have q0 : ¬ nI (l.length + 1) ≤ 0 := by rw [show (0 : Int32) = nI 0 from rfl, nI_leI (by omega) (by decide)]; omega
  have e1 : nI (l.length + 1) - 1 = nI l.length := by rw [← nI_1, Int32.add_sub_cancel]
  unfold fL_passNext
  simp (disch := first | assumption | omega | exact b2i_01 _ | exact Or.inl rfl | exact Or.inr rfl) only [b4 o, bc4 o, f4_0 o, p4_0 o, f4_1 o, p4_1 o, f4_2 o, p4_2 o, f4_3 o, p4_3 o, f4_4 o, f4_5 o, f4_6 o, p4_6 o, fc4_0 o, pc4_0 o, fc4_1 o, pc4_1 o, fc4_2 o, pc4_2 o, fc4_3 o, pc4_3 o, g4_1 o, z4_1 o, a4_1 o, s4_1 o, g4_2 o, z4_2 o, a4_2 o, s4_2 o, cp4_1 o, cp4_2 o, rI_uI, rI_uJ, rI_uR, rI_wI, rI_wJ, rJ_uJ, rJ_uI, rJ_uR, rJ_wI, rJ_wJ, rR_uR, rR_uI, rR_uJ, rR_wI, rR_wJ, qI_wI, qI_wJ, qI_uI, qI_uJ, qI_uR, qJ_wJ, qJ_wI, qJ_uI, qJ_uJ, qJ_uR, Option.bind_some, zcV_s, zcI_s, zcL_s, zrI, zrV, zrL, nI_mul8, nI_mul16, nI_mul200, nI_1, eq_self, Nat.reduceEqDiff, and_true, true_and, and_false, false_and, and_self, ite_true, ite_false, ↓reduceIte, Nat.add_zero, if_true, if_false, b2i_t, b2i_f, o2i_s, o2i_n, zdI_s, zdV_s, zdL_s, zcR_s, zcV_x, zcI_x, zcL_x, zcR_x, zrR_s, zth_s, nI_leI, nI_ltI, nI_eq, nI_eq0, nI_eqm1, b2i_eq0, h3, q0, e1]
  refine ⟨_, rfl, ⟨?_, ?_, ?_, by omega⟩, Fr.uJ (po 4 c) (Fr.uI (po 4 c) (Fr.wI (po 4 c) (Fr.refl _ _))), fun f hf => ?_⟩
  · simp only [rI_uI, rI_uJ, rI_uR, rI_wI, rI_wJ, rJ_uJ, rJ_uI, rJ_uR, rJ_wI, rJ_wJ, rR_uR, rR_uI, rR_uJ, rR_wI, rR_wJ, qI_wI, qI_wJ, qI_uI, qI_uJ, qI_uR, qJ_wJ, qJ_wI, qJ_uI, qJ_uJ, qJ_uR, Option.bind_some, zcV_s, zcI_s, zcL_s, zrI, zrV, zrL, nI_mul8, nI_mul16, nI_mul200, nI_1, eq_self, Nat.reduceEqDiff, and_true, true_and, and_false, false_and, and_self, ite_true, ite_false, ↓reduceIte, Nat.add_zero, if_true, if_false, b2i_t, b2i_f, o2i_s, o2i_n]
    exact hL_cpy h1
  · simp only [rI_uI, rI_uJ, rI_uR, rI_wI, rI_wJ, rJ_uJ, rJ_uI, rJ_uR, rJ_wI, rJ_wJ, rR_uR, rR_uI, rR_uJ, rR_wI, rR_wJ, qI_wI, qI_wJ, qI_uI, qI_uJ, qI_uR, qJ_wJ, qJ_wI, qJ_uI, qJ_uJ, qJ_uR, Option.bind_some, zcV_s, zcI_s, zcL_s, zrI, zrV, zrL, nI_mul8, nI_mul16, nI_mul200, nI_1, eq_self, Nat.reduceEqDiff, and_true, true_and, and_false, false_and, and_self, ite_true, ite_false, ↓reduceIte, Nat.add_zero, if_true, if_false, b2i_t, b2i_f, o2i_s, o2i_n]
    exact hL_cpy h2
  · simp only [rI_uI, rI_uJ, rI_uR, rI_wI, rI_wJ, rJ_uJ, rJ_uI, rJ_uR, rJ_wI, rJ_wJ, rR_uR, rR_uI, rR_uJ, rR_wI, rR_wJ, qI_wI, qI_wJ, qI_uI, qI_uJ, qI_uR, qJ_wJ, qJ_wI, qJ_uI, qJ_uJ, qJ_uR, Option.bind_some, zcV_s, zcI_s, zcL_s, zrI, zrV, zrL, nI_mul8, nI_mul16, nI_mul200, nI_1, eq_self, Nat.reduceEqDiff, and_true, true_and, and_false, false_and, and_self, ite_true, ite_false, ↓reduceIte, Nat.add_zero, if_true, if_false, b2i_t, b2i_f, o2i_s, o2i_n]
  · simp only [rI_uI, rI_uJ, rI_uR, rI_wI, rI_wJ, rJ_uJ, rJ_uI, rJ_uR, rJ_wI, rJ_wJ, rR_uR, rR_uI, rR_uJ, rR_wI, rR_wJ, qI_wI, qI_wJ, qI_uI, qI_uJ, qI_uR, qJ_wJ, qJ_wI, qJ_uI, qJ_uJ, qJ_uR, Option.bind_some, zcV_s, zcI_s, zcL_s, zrI, zrV, zrL, nI_mul8, nI_mul16, nI_mul200, nI_1, eq_self, Nat.reduceEqDiff, and_true, true_and, and_false, false_and, and_self, ite_true, ite_false, ↓reduceIte, Nat.add_zero, if_true, if_false, b2i_t, b2i_f, o2i_s, o2i_n]
    exact if_neg (by omega)
set_option maxHeartbeats 2000000 in
theorem fL_goBack_eq (o : o4K e c 0) {q : List (Nat × Int64)} (h : cLo t c q) (x : Int32) : ∃ t', fL_goBack (pv e t) n (pL e 4 c 0) x = some (.inl none, pv e t', n) ∧ cLo t' c [] ∧ Fr (PO 4 c) t t' ∧ (∀ f, f ≤ 3 → qI t' 4 c f = qI t 4 c f) := by
  unfold fL_goBack
  simp (disch := first | assumption | omega | exact b2i_01 _ | exact Or.inl rfl | exact Or.inr rfl) only [b4 o, bc4 o, f4_0 o, p4_0 o, f4_1 o, p4_1 o, f4_2 o, p4_2 o, f4_3 o, p4_3 o, f4_4 o, f4_5 o, f4_6 o, p4_6 o, fc4_0 o, pc4_0 o, fc4_1 o, pc4_1 o, fc4_2 o, pc4_2 o, fc4_3 o, pc4_3 o, g4_1 o, z4_1 o, a4_1 o, s4_1 o, g4_2 o, z4_2 o, a4_2 o, s4_2 o, cp4_1 o, cp4_2 o, rI_uI, rI_uJ, rI_uR, rI_wI, rI_wJ, rJ_uJ, rJ_uI, rJ_uR, rJ_wI, rJ_wJ, rR_uR, rR_uI, rR_uJ, rR_wI, rR_wJ, qI_wI, qI_wJ, qI_uI, qI_uJ, qI_uR, qJ_wJ, qJ_wI, qJ_uI, qJ_uJ, qJ_uR, Option.bind_some, zcV_s, zcI_s, zcL_s, zrI, zrV, zrL, nI_mul8, nI_mul16, nI_mul200, nI_1, eq_self, Nat.reduceEqDiff, and_true, true_and, and_false, false_and, and_self, ite_true, ite_false, ↓reduceIte, Nat.add_zero, if_true, if_false, b2i_t, b2i_f, o2i_s, o2i_n, zdI_s, zdV_s, zdL_s, zcR_s, zcV_x, zcI_x, zcL_x, zcR_x, zrR_s, zth_s, nI_leI, nI_ltI, nI_eq, nI_eq0, nI_eqm1, b2i_eq0]
  refine ⟨_, rfl, ⟨hL_nil _ _ _, hL_nil _ _ _, ?_, by simp⟩, Fr.wI (po 4 c) (Fr.refl _ _), fun f hf => ?_⟩
  · simp only [rI_uI, rI_uJ, rI_uR, rI_wI, rI_wJ, rJ_uJ, rJ_uI, rJ_uR, rJ_wI, rJ_wJ, rR_uR, rR_uI, rR_uJ, rR_wI, rR_wJ, qI_wI, qI_wJ, qI_uI, qI_uJ, qI_uR, qJ_wJ, qJ_wI, qJ_uI, qJ_uJ, qJ_uR, Option.bind_some, zcV_s, zcI_s, zcL_s, zrI, zrV, zrL, nI_mul8, nI_mul16, nI_mul200, nI_1, eq_self, Nat.reduceEqDiff, and_true, true_and, and_false, false_and, and_self, ite_true, ite_false, ↓reduceIte, Nat.add_zero, if_true, if_false, b2i_t, b2i_f, o2i_s, o2i_n]
    rfl
  · simp only [rI_uI, rI_uJ, rI_uR, rI_wI, rI_wJ, rJ_uJ, rJ_uI, rJ_uR, rJ_wI, rJ_wJ, rR_uR, rR_uI, rR_uJ, rR_wI, rR_wJ, qI_wI, qI_wJ, qI_uI, qI_uJ, qI_uR, qJ_wJ, qJ_wI, qJ_uI, qJ_uJ, qJ_uR, Option.bind_some, zcV_s, zcI_s, zcL_s, zrI, zrV, zrL, nI_mul8, nI_mul16, nI_mul200, nI_1, eq_self, Nat.reduceEqDiff, and_true, true_and, and_false, false_and, and_self, ite_true, ite_false, ↓reduceIte, Nat.add_zero, if_true, if_false, b2i_t, b2i_f, o2i_s, o2i_n]
    exact if_neg (by omega)
set_option maxHeartbeats 2000000 in
theorem fL_left_eq (o : o4K e c 0) {q : List (Nat × Int64)} (h : cLo t c q) : fL_left (pv e t) n (pL e 4 c 0) = some (.inl (some (.int (nI q.length))), pv e t, n) := by
  unfold fL_left
  simp (disch := first | assumption | omega | exact b2i_01 _ | exact Or.inl rfl | exact Or.inr rfl) only [b4 o, bc4 o, f4_0 o, p4_0 o, f4_1 o, p4_1 o, f4_2 o, p4_2 o, f4_3 o, p4_3 o, f4_4 o, f4_5 o, f4_6 o, p4_6 o, fc4_0 o, pc4_0 o, fc4_1 o, pc4_1 o, fc4_2 o, pc4_2 o, fc4_3 o, pc4_3 o, g4_1 o, z4_1 o, a4_1 o, s4_1 o, g4_2 o, z4_2 o, a4_2 o, s4_2 o, cp4_1 o, cp4_2 o, rI_uI, rI_uJ, rI_uR, rI_wI, rI_wJ, rJ_uJ, rJ_uI, rJ_uR, rJ_wI, rJ_wJ, rR_uR, rR_uI, rR_uJ, rR_wI, rR_wJ, qI_wI, qI_wJ, qI_uI, qI_uJ, qI_uR, qJ_wJ, qJ_wI, qJ_uI, qJ_uJ, qJ_uR, Option.bind_some, zcV_s, zcI_s, zcL_s, zrI, zrV, zrL, nI_mul8, nI_mul16, nI_mul200, nI_1, eq_self, Nat.reduceEqDiff, and_true, true_and, and_false, false_and, and_self, ite_true, ite_false, ↓reduceIte, Nat.add_zero, if_true, if_false, b2i_t, b2i_f, o2i_s, o2i_n, zdI_s, zdV_s, zdL_s, zcR_s, zcV_x, zcI_x, zcL_x, zcR_x, zrR_s, zth_s, nI_leI, nI_ltI, nI_eq, nI_eq0, nI_eqm1, b2i_eq0, h.2.2.1]
end PO
