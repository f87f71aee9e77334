/-! the class's lines and sources: barriers dropped; sources; marks -/
theorem hL_tl {α β : Type} {f : Nat → α} {o : Nat} {z : β} {l : List β} {g : β → α} (h : hL f o (z :: l) g) : hL f (o + 1) l g := by
  intro i y hi
  have := h (i + 1) y hi
  rw [show o + (i + 1) = o + 1 + i by omega] at this
  exact this
theorem hL_hd {α β : Type} {f : Nat → α} {o : Nat} {z : β} {l : List β} {g : β → α} (h : hL f o (z :: l) g) : f o = g z := h 0 z rfl
theorem isB_iff {m : Nat} {z : Nat × Int64} : isB m z = true ↔ z.1 = 1 ∧ z.2 = lN m := by
  unfold isB
  rw [Bool.and_eq_true, beq_iff_eq, beq_iff_eq]
section PO
variable {e : pE} {n c : Nat}
set_option maxHeartbeats 2000000 in
theorem fL_dropBarrier_4_eq (o : o4K e c 0) {m L : Nat} (hm : m < 2 ^ 31) (hL9 : L ≤ 9) : ∀ (r kept : List (Nat × Int64)) (i : Nat) (t : pS) (f : Nat), i + r.length = L → r.length < f → kept.length ≤ i → (∀ z ∈ r, z.1 ≤ 2) → hL (rI t 4 c 1) i r (fun z => nI z.1) → hL (rJ t 4 c 2) i r (fun z => z.2) → hL (rI t 4 c 1) 0 kept (fun z => nI z.1) → hL (rJ t 4 c 2) 0 kept (fun z => z.2) → qI t 4 c 6 = nI L → ∃ t', fL_dropBarrier_4 f (pv e t) n (pL e 4 c 0) (nI m) (nI kept.length) (nI i) = some (.inl none, pv e t', n) ∧ cLo t' c (kept ++ r.filter fun z => !isB m z) ∧ Fr (PO 4 c) t t' ∧ (∀ f, f ≤ 3 → qI t' 4 c f = qI t 4 c f) := by
  intro r
  induction r with
  | nil =>
    intro kept i t f hi hf hk _ a1 a2 b1 b2 hq
    obtain ⟨f, rfl⟩ : ∃ g, f = g + 1 := ⟨f - 1, by omega⟩
    rw [List.length_nil] at hi
    have q : L ≤ i := by omega
    unfold fL_dropBarrier_4
    simp (disch := first | assumption | omega | exact b2i_01 _ | exact Or.inl rfl | exact Or.inr rfl) only [b4 o, bc4 o, f4_0 o, p4_0 o, f4_1 o, p4_1 o, f4_2 o, p4_2 o, f4_3 o, p4_3 o, f4_4 o, f4_5 o, f4_6 o, p4_6 o, fc4_0 o, pc4_0 o, fc4_1 o, pc4_1 o, fc4_2 o, pc4_2 o, fc4_3 o, pc4_3 o, g4_1 o, z4_1 o, a4_1 o, s4_1 o, g4_2 o, z4_2 o, a4_2 o, s4_2 o, cp4_1 o, cp4_2 o, rI_uI, rI_uJ, rI_uR, rI_wI, rI_wJ, rJ_uJ, rJ_uI, rJ_uR, rJ_wI, rJ_wJ, rR_uR, rR_uI, rR_uJ, rR_wI, rR_wJ, qI_wI, qI_wJ, qI_uI, qI_uJ, qI_uR, qJ_wJ, qJ_wI, qJ_uI, qJ_uJ, qJ_uR, Option.bind_some, zcV_s, zcI_s, zcL_s, zrI, zrV, zrL, nI_mul8, nI_mul16, nI_mul200, nI_1, eq_self, Nat.reduceEqDiff, and_true, true_and, and_false, false_and, and_self, ite_true, ite_false, ↓reduceIte, Nat.add_zero, if_true, if_false, b2i_t, b2i_f, o2i_s, o2i_n, zdI_s, zdV_s, zdL_s, zcR_s, zcV_x, zcI_x, zcL_x, zcR_x, zrR_s, zth_s, nI_leI, nI_ltI, nI_eq, nI_eq0, nI_eqm1, b2i_eq0, hq, q]
    refine ⟨_, rfl, ?_, Fr.wI (po 4 c) (Fr.refl _ _), fun f hf => ?_⟩
    · rw [List.filter_nil, List.append_nil]
      refine ⟨?_, ?_, ?_, by omega⟩
      · simp only [rI_uI, rI_uJ, rI_uR, rI_wI, rI_wJ, rJ_uJ, rJ_uI, rJ_uR, rJ_wI, rJ_wJ, rR_uR, rR_uI, rR_uJ, rR_wI, rR_wJ, qI_wI, qI_wJ, qI_uI, qI_uJ, qI_uR, qJ_wJ, qJ_wI, qJ_uI, qJ_uJ, qJ_uR, Option.bind_some, zcV_s, zcI_s, zcL_s, zrI, zrV, zrL, nI_mul8, nI_mul16, nI_mul200, nI_1, eq_self, Nat.reduceEqDiff, and_true, true_and, and_false, false_and, and_self, ite_true, ite_false, ↓reduceIte, Nat.add_zero, if_true, if_false, b2i_t, b2i_f, o2i_s, o2i_n]
        exact b1
      · simp only [rI_uI, rI_uJ, rI_uR, rI_wI, rI_wJ, rJ_uJ, rJ_uI, rJ_uR, rJ_wI, rJ_wJ, rR_uR, rR_uI, rR_uJ, rR_wI, rR_wJ, qI_wI, qI_wJ, qI_uI, qI_uJ, qI_uR, qJ_wJ, qJ_wI, qJ_uI, qJ_uJ, qJ_uR, Option.bind_some, zcV_s, zcI_s, zcL_s, zrI, zrV, zrL, nI_mul8, nI_mul16, nI_mul200, nI_1, eq_self, Nat.reduceEqDiff, and_true, true_and, and_false, false_and, and_self, ite_true, ite_false, ↓reduceIte, Nat.add_zero, if_true, if_false, b2i_t, b2i_f, o2i_s, o2i_n]
        exact b2
      · simp only [rI_uI, rI_uJ, rI_uR, rI_wI, rI_wJ, rJ_uJ, rJ_uI, rJ_uR, rJ_wI, rJ_wJ, rR_uR, rR_uI, rR_uJ, rR_wI, rR_wJ, qI_wI, qI_wJ, qI_uI, qI_uJ, qI_uR, qJ_wJ, qJ_wI, qJ_uI, qJ_uJ, qJ_uR, Option.bind_some, zcV_s, zcI_s, zcL_s, zrI, zrV, zrL, nI_mul8, nI_mul16, nI_mul200, nI_1, eq_self, Nat.reduceEqDiff, and_true, true_and, and_false, false_and, and_self, ite_true, ite_false, ↓reduceIte, Nat.add_zero, if_true, if_false, b2i_t, b2i_f, o2i_s, o2i_n]
    · simp only [rI_uI, rI_uJ, rI_uR, rI_wI, rI_wJ, rJ_uJ, rJ_uI, rJ_uR, rJ_wI, rJ_wJ, rR_uR, rR_uI, rR_uJ, rR_wI, rR_wJ, qI_wI, qI_wJ, qI_uI, qI_uJ, qI_uR, qJ_wJ, qJ_wI, qJ_uI, qJ_uJ, qJ_uR, Option.bind_some, zcV_s, zcI_s, zcL_s, zrI, zrV, zrL, nI_mul8, nI_mul16, nI_mul200, nI_1, eq_self, Nat.reduceEqDiff, and_true, true_and, and_false, false_and, and_self, ite_true, ite_false, ↓reduceIte, Nat.add_zero, if_true, if_false, b2i_t, b2i_f, o2i_s, o2i_n]
      exact if_neg (by omega)
  | cons z r ih =>
    intro kept i t f hi hf hk hz a1 a2 b1 b2 hq
    obtain ⟨f, rfl⟩ : ∃ g, f = g + 1 := ⟨f - 1, by omega⟩
    rw [List.length_cons] at hi hf
    have q : ¬ L ≤ i := by omega
    have hz2 := hz z List.mem_cons_self
    have hzr : ∀ y ∈ r, y.1 ≤ 2 := fun y hy => hz y (List.mem_cons_of_mem _ hy)
    have e1 := hL_hd a1
    have e2 := hL_hd a2
    have ihs := ih kept (i + 1) t f (by omega) (by omega) (by omega) hzr (hL_tl a1) (hL_tl a2) b1 b2 hq
    have ihk : ∃ t', fL_dropBarrier_4 f (pv e (uJ (uI t 4 c 1 (fu (rI t 4 c 1) kept.length (nI z.1))) 4 c 2 (fu (rJ t 4 c 2) kept.length z.2))) n (pL e 4 c 0) (nI m) (nI (kept.length + 1)) (nI (i + 1)) = some (.inl none, pv e t', n) ∧ cLo t' c (kept ++ (z :: r.filter fun z => !isB m z)) ∧ Fr (PO 4 c) t t' ∧ (∀ f, f ≤ 3 → qI t' 4 c f = qI t 4 c f) := by
      have := ih (kept ++ [z]) (i + 1) (uJ (uI t 4 c 1 (fu (rI t 4 c 1) kept.length (nI z.1))) 4 c 2 (fu (rJ t 4 c 2) kept.length z.2)) f (by omega) (by omega) (by rw [List.length_append, List.length_singleton]; omega) hzr ?_ ?_ ?_ ?_ hq
      · rw [List.length_append, List.length_singleton, List.append_assoc] at this
        obtain ⟨t', h1, h2, h3, h4⟩ := this
        exact ⟨t', h1, h2, Fr.trans (Fr.uJ (po 4 c) (Fr.uI (po 4 c) (Fr.refl _ _))) h3, h4⟩
      · simp only [rI_uI, rI_uJ, rI_uR, rI_wI, rI_wJ, rJ_uJ, rJ_uI, rJ_uR, rJ_wI, rJ_wJ, rR_uR, rR_uI, rR_uJ, rR_wI, rR_wJ, qI_wI, qI_wJ, qI_uI, qI_uJ, qI_uR, qJ_wJ, qJ_wI, qJ_uI, qJ_uJ, qJ_uR, Option.bind_some, zcV_s, zcI_s, zcL_s, zrI, zrV, zrL, nI_mul8, nI_mul16, nI_mul200, nI_1, eq_self, Nat.reduceEqDiff, and_true, true_and, and_false, false_and, and_self, ite_true, ite_false, ↓reduceIte, Nat.add_zero, if_true, if_false, b2i_t, b2i_f, o2i_s, o2i_n]
        exact hL_out (hL_tl a1) (by omega)
      · simp only [rI_uI, rI_uJ, rI_uR, rI_wI, rI_wJ, rJ_uJ, rJ_uI, rJ_uR, rJ_wI, rJ_wJ, rR_uR, rR_uI, rR_uJ, rR_wI, rR_wJ, qI_wI, qI_wJ, qI_uI, qI_uJ, qI_uR, qJ_wJ, qJ_wI, qJ_uI, qJ_uJ, qJ_uR, Option.bind_some, zcV_s, zcI_s, zcL_s, zrI, zrV, zrL, nI_mul8, nI_mul16, nI_mul200, nI_1, eq_self, Nat.reduceEqDiff, and_true, true_and, and_false, false_and, and_self, ite_true, ite_false, ↓reduceIte, Nat.add_zero, if_true, if_false, b2i_t, b2i_f, o2i_s, o2i_n]
        exact hL_out (hL_tl a2) (by omega)
      · simp only [rI_uI, rI_uJ, rI_uR, rI_wI, rI_wJ, rJ_uJ, rJ_uI, rJ_uR, rJ_wI, rJ_wJ, rR_uR, rR_uI, rR_uJ, rR_wI, rR_wJ, qI_wI, qI_wJ, qI_uI, qI_uJ, qI_uR, qJ_wJ, qJ_wI, qJ_uI, qJ_uJ, qJ_uR, Option.bind_some, zcV_s, zcI_s, zcL_s, zrI, zrV, zrL, nI_mul8, nI_mul16, nI_mul200, nI_1, eq_self, Nat.reduceEqDiff, and_true, true_and, and_false, false_and, and_self, ite_true, ite_false, ↓reduceIte, Nat.add_zero, if_true, if_false, b2i_t, b2i_f, o2i_s, o2i_n]
        exact hL_snoc b1 (Nat.zero_add _).symm rfl
      · simp only [rI_uI, rI_uJ, rI_uR, rI_wI, rI_wJ, rJ_uJ, rJ_uI, rJ_uR, rJ_wI, rJ_wJ, rR_uR, rR_uI, rR_uJ, rR_wI, rR_wJ, qI_wI, qI_wJ, qI_uI, qI_uJ, qI_uR, qJ_wJ, qJ_wI, qJ_uI, qJ_uJ, qJ_uR, Option.bind_some, zcV_s, zcI_s, zcL_s, zrI, zrV, zrL, nI_mul8, nI_mul16, nI_mul200, nI_1, eq_self, Nat.reduceEqDiff, and_true, true_and, and_false, false_and, and_self, ite_true, ite_false, ↓reduceIte, Nat.add_zero, if_true, if_false, b2i_t, b2i_f, o2i_s, o2i_n]
        exact hL_snoc b2 (Nat.zero_add _).symm rfl
    clear ih
    unfold fL_dropBarrier_4 fL_dropBarrier_34 fL_dropBarrier_61
    generalize fL_dropBarrier_4 f = R at ihs ihk ⊢
    have hkb : kept.length < 9 := by omega
    simp (disch := first | assumption | omega | exact b2i_01 _ | exact Or.inl rfl | exact Or.inr rfl) only [b4 o, bc4 o, f4_0 o, p4_0 o, f4_1 o, p4_1 o, f4_2 o, p4_2 o, f4_3 o, p4_3 o, f4_4 o, f4_5 o, f4_6 o, p4_6 o, fc4_0 o, pc4_0 o, fc4_1 o, pc4_1 o, fc4_2 o, pc4_2 o, fc4_3 o, pc4_3 o, g4_1 o, z4_1 o, a4_1 o, s4_1 o, g4_2 o, z4_2 o, a4_2 o, s4_2 o, cp4_1 o, cp4_2 o, rI_uI, rI_uJ, rI_uR, rI_wI, rI_wJ, rJ_uJ, rJ_uI, rJ_uR, rJ_wI, rJ_wJ, rR_uR, rR_uI, rR_uJ, rR_wI, rR_wJ, qI_wI, qI_wJ, qI_uI, qI_uJ, qI_uR, qJ_wJ, qJ_wI, qJ_uI, qJ_uJ, qJ_uR, Option.bind_some, zcV_s, zcI_s, zcL_s, zrI, zrV, zrL, nI_mul8, nI_mul16, nI_mul200, nI_1, eq_self, Nat.reduceEqDiff, and_true, true_and, and_false, false_and, and_self, ite_true, ite_false, ↓reduceIte, Nat.add_zero, if_true, if_false, b2i_t, b2i_f, o2i_s, o2i_n, zdI_s, zdV_s, zdL_s, zcR_s, zcV_x, zcI_x, zcL_x, zcR_x, zrR_s, zth_s, nI_leI, nI_ltI, nI_eq, nI_eq0, nI_eqm1, b2i_eq0, hq, q, e1, e2, upd_fu, updL_fu, lg_cmp_eq, nI_l hm, show (1 : Int32) = nI 1 from rfl, nI_add]
    by_cases q1 : z.1 = 1
    · rw [if_pos q1]
      by_cases q2 : z.2 = lN m
      · rw [if_pos q2, List.filter_cons_of_neg (by rw [isB_iff.mpr ⟨q1, q2⟩]; decide)]
        exact ihs
      · rw [if_neg q2, List.filter_cons_of_pos (by
          cases hb : isB m z with
          | false => rfl
          | true => exact absurd (isB_iff.mp hb).2 q2)]
        exact ihk
    · rw [if_neg q1, List.filter_cons_of_pos (by
        cases hb : isB m z with
        | false => rfl
        | true => exact absurd (isB_iff.mp hb).1 q1)]
      exact ihk
theorem fL_dropBarrier_eq (o : o4K e c 0) {t : pS} {q : List (Nat × Int64)} (h : cLo t c q) (hz : ∀ z ∈ q, z.1 ≤ 2) {m : Nat} (hm : m < 2 ^ 31) : ∃ t', fL_dropBarrier (pv e t) n (pL e 4 c 0) (nI m) = some (.inl none, pv e t', n) ∧ cLo t' c (q.filter fun z => !isB m z) ∧ Fr (PO 4 c) t t' ∧ (∀ f, f ≤ 3 → qI t' 4 c f = qI t 4 c f) := by
  obtain ⟨h1, h2, h3, h4⟩ := h
  have := fL_dropBarrier_4_eq (n := n) o hm h4 q [] 0 t zF (Nat.zero_add _) (zF_big (by omega)) (Nat.le_refl _) hz h1 h2 (hL_nil _ _ _) (hL_nil _ _ _) h3
  unfold fL_dropBarrier
  exact this
end PO
/-- a source -/
def cSo (t : pS) (c : Nat) (log : List Int64) (fin : Bool) (stand M : Nat) (pos : Nat → Nat) (due : List Nat) : Prop := (hL (rJ t 3 c 1) 0 log (fun z => z)) ∧ qI t 3 c 9 = nI log.length ∧ log.length ≤ 200 ∧ qJ t 3 c 10 = sumL log 0 ∧ qI t 3 c 11 = nI stand ∧ stand ≤ log.length ∧ qI t 3 c 12 = b2i fin ∧ hI (rI t 3 c 2) M (fun m => nI (pos m)) ∧ hI (rJ t 3 c 3) M (fun m => sumL (log.take (pos m)) 0) ∧ hL (rI t 3 c 4) 0 due nI ∧ qI t 3 c 8 = nI due.length ∧ due.length ≤ 3 ∧ M ≤ 40 ∧ (∀ d ∈ due, d < M) ∧ (∀ m, m < M → pos m ≤ log.length)
theorem cSo.fr {t t' : pS} {c : Nat} {log : List Int64} {fin : Bool} {stand M : Nat} {pos : Nat → Nat} {due : List Nat} (h : cSo t c log fin stand M pos due) (F : same t t' 3 c) : cSo t' c log fin stand M pos due := by
  unfold cSo
  rw [F.1, F.2.1, F.2.2.1, F.2.2.2.1]
  exact h
def dueN (stand : Nat) (pos : Nat → Nat) (due : List Nat) : Bool := match due with
  | [] => false
  | d :: _ => pos d == stand
def sNext (over : Bool) (log : List Int64) (fin : Bool) (stand : Nat) (pos : Nat → Nat) (due : List Nat) : Option Nat := if over then none else if dueN stand pos due then some 1 else if stand < log.length then some 0 else if fin then some 2 else none
section PO
variable {e : pE} {t : pS} {n c : Nat} {log : List Int64} {fin : Bool} {stand M : Nat} {pos : Nat → Nat} {due : List Nat}
set_option maxHeartbeats 2000000 in
theorem fS_addRow_eq (o : o3K e c 0) (h : cSo t c log fin stand M pos due) (hl : log.length < 200) (v : Int64) : ∃ t', fS_addRow (pv e t) n (pL e 3 c 0) v = some (.inl none, pv e t', n) ∧ cSo t' c (log ++ [v]) fin stand M pos due ∧ Fr (PO 3 c) t t' ∧ (∀ f, f ≤ 3 → qI t' 3 c f = qI t 3 c f) := by
  obtain ⟨h1, h2, h3, h4, h5, h6, h7, h8, h9, h10, h11, h12, h13, h14, h15⟩ := h
  have q1 : ¬ 200 ≤ log.length := by omega
  unfold fS_addRow
  simp (disch := first | assumption | omega | exact b2i_01 _ | exact Or.inl rfl | exact Or.inr rfl) only [b3 o, bc3 o, f3_0 o, p3_0 o, f3_1 o, p3_1 o, f3_2 o, p3_2 o, f3_3 o, p3_3 o, f3_4 o, f3_5 o, f3_6 o, f3_7 o, f3_8 o, p3_8 o, f3_9 o, p3_9 o, f3_10 o, p3_10 o, f3_11 o, p3_11 o, f3_12 o, p3_12 o, fc3_0 o, pc3_0 o, fc3_1 o, pc3_1 o, fc3_2 o, pc3_2 o, fc3_3 o, pc3_3 o, g3_1 o, a3_1 o, s3_1 o, g3_2 o, a3_2 o, s3_2 o, g3_3 o, a3_3 o, s3_3 o, g3_4 o, z3_4 o, a3_4 o, s3_4 o, rI_uI, rI_uJ, rI_uR, rI_wI, rI_wJ, rJ_uJ, rJ_uI, rJ_uR, rJ_wI, rJ_wJ, rR_uR, rR_uI, rR_uJ, rR_wI, rR_wJ, qI_wI, qI_wJ, qI_uI, qI_uJ, qI_uR, qJ_wJ, qJ_wI, qJ_uI, qJ_uJ, qJ_uR, Option.bind_some, zcV_s, zcI_s, zcL_s, zrI, zrV, zrL, nI_mul8, nI_mul16, nI_mul200, nI_1, eq_self, Nat.reduceEqDiff, and_true, true_and, and_false, false_and, and_self, ite_true, ite_false, ↓reduceIte, Nat.add_zero, if_true, if_false, b2i_t, b2i_f, o2i_s, o2i_n, zdI_s, zdV_s, zdL_s, zcR_s, zcV_x, zcI_x, zcL_x, zcR_x, zrR_s, zth_s, nI_leI, nI_ltI, nI_eq, nI_eq0, nI_eqm1, b2i_eq0, h2, h4, q1, upd_fu, updL_fu]
  have hlen : (log ++ [v]).length = log.length + 1 := by rw [List.length_append, List.length_singleton]
  refine ⟨_, rfl, ⟨?_, ?_, ?_, ?_, ?_, ?_, ?_, ?_, ?_, ?_, ?_, h12, h13, h14, ?_⟩, Fr.wJ (po 3 c) (Fr.wI (po 3 c) (Fr.uJ (po 3 c) (Fr.refl _ _))), fun f hf => ?_⟩
  · simp only [rI_uI, rI_uJ, rI_uR, rI_wI, rI_wJ, rJ_uJ, rJ_uI, rJ_uR, rJ_wI, rJ_wJ, rR_uR, rR_uI, rR_uJ, rR_wI, rR_wJ, qI_wI, qI_wJ, qI_uI, qI_uJ, qI_uR, qJ_wJ, qJ_wI, qJ_uI, qJ_uJ, qJ_uR, Option.bind_some, zcV_s, zcI_s, zcL_s, zrI, zrV, zrL, nI_mul8, nI_mul16, nI_mul200, nI_1, eq_self, Nat.reduceEqDiff, and_true, true_and, and_false, false_and, and_self, ite_true, ite_false, ↓reduceIte, Nat.add_zero, if_true, if_false, b2i_t, b2i_f, o2i_s, o2i_n]
    exact hL_snoc h1 (Nat.zero_add _).symm rfl
  · simp only [rI_uI, rI_uJ, rI_uR, rI_wI, rI_wJ, rJ_uJ, rJ_uI, rJ_uR, rJ_wI, rJ_wJ, rR_uR, rR_uI, rR_uJ, rR_wI, rR_wJ, qI_wI, qI_wJ, qI_uI, qI_uJ, qI_uR, qJ_wJ, qJ_wI, qJ_uI, qJ_uJ, qJ_uR, Option.bind_some, zcV_s, zcI_s, zcL_s, zrI, zrV, zrL, nI_mul8, nI_mul16, nI_mul200, nI_1, eq_self, Nat.reduceEqDiff, and_true, true_and, and_false, false_and, and_self, ite_true, ite_false, ↓reduceIte, Nat.add_zero, if_true, if_false, b2i_t, b2i_f, o2i_s, o2i_n]
    rw [hlen]
  · omega
  · simp only [rI_uI, rI_uJ, rI_uR, rI_wI, rI_wJ, rJ_uJ, rJ_uI, rJ_uR, rJ_wI, rJ_wJ, rR_uR, rR_uI, rR_uJ, rR_wI, rR_wJ, qI_wI, qI_wJ, qI_uI, qI_uJ, qI_uR, qJ_wJ, qJ_wI, qJ_uI, qJ_uJ, qJ_uR, Option.bind_some, zcV_s, zcI_s, zcL_s, zrI, zrV, zrL, nI_mul8, nI_mul16, nI_mul200, nI_1, eq_self, Nat.reduceEqDiff, and_true, true_and, and_false, false_and, and_self, ite_true, ite_false, ↓reduceIte, Nat.add_zero, if_true, if_false, b2i_t, b2i_f, o2i_s, o2i_n]
    show sumL log 0 + v = (log ++ [v]).foldl (fun a v => a + v) 0
    rw [List.foldl_append]
    rfl
  · simp only [rI_uI, rI_uJ, rI_uR, rI_wI, rI_wJ, rJ_uJ, rJ_uI, rJ_uR, rJ_wI, rJ_wJ, rR_uR, rR_uI, rR_uJ, rR_wI, rR_wJ, qI_wI, qI_wJ, qI_uI, qI_uJ, qI_uR, qJ_wJ, qJ_wI, qJ_uI, qJ_uJ, qJ_uR, Option.bind_some, zcV_s, zcI_s, zcL_s, zrI, zrV, zrL, nI_mul8, nI_mul16, nI_mul200, nI_1, eq_self, Nat.reduceEqDiff, and_true, true_and, and_false, false_and, and_self, ite_true, ite_false, ↓reduceIte, Nat.add_zero, if_true, if_false, b2i_t, b2i_f, o2i_s, o2i_n]
    exact h5
  · omega
  · simp only [rI_uI, rI_uJ, rI_uR, rI_wI, rI_wJ, rJ_uJ, rJ_uI, rJ_uR, rJ_wI, rJ_wJ, rR_uR, rR_uI, rR_uJ, rR_wI, rR_wJ, qI_wI, qI_wJ, qI_uI, qI_uJ, qI_uR, qJ_wJ, qJ_wI, qJ_uI, qJ_uJ, qJ_uR, Option.bind_some, zcV_s, zcI_s, zcL_s, zrI, zrV, zrL, nI_mul8, nI_mul16, nI_mul200, nI_1, eq_self, Nat.reduceEqDiff, and_true, true_and, and_false, false_and, and_self, ite_true, ite_false, ↓reduceIte, Nat.add_zero, if_true, if_false, b2i_t, b2i_f, o2i_s, o2i_n]
    exact h7
  · simp only [rI_uI, rI_uJ, rI_uR, rI_wI, rI_wJ, rJ_uJ, rJ_uI, rJ_uR, rJ_wI, rJ_wJ, rR_uR, rR_uI, rR_uJ, rR_wI, rR_wJ, qI_wI, qI_wJ, qI_uI, qI_uJ, qI_uR, qJ_wJ, qJ_wI, qJ_uI, qJ_uJ, qJ_uR, Option.bind_some, zcV_s, zcI_s, zcL_s, zrI, zrV, zrL, nI_mul8, nI_mul16, nI_mul200, nI_1, eq_self, Nat.reduceEqDiff, and_true, true_and, and_false, false_and, and_self, ite_true, ite_false, ↓reduceIte, Nat.add_zero, if_true, if_false, b2i_t, b2i_f, o2i_s, o2i_n]
    exact h8
  · simp only [rI_uI, rI_uJ, rI_uR, rI_wI, rI_wJ, rJ_uJ, rJ_uI, rJ_uR, rJ_wI, rJ_wJ, rR_uR, rR_uI, rR_uJ, rR_wI, rR_wJ, qI_wI, qI_wJ, qI_uI, qI_uJ, qI_uR, qJ_wJ, qJ_wI, qJ_uI, qJ_uJ, qJ_uR, Option.bind_some, zcV_s, zcI_s, zcL_s, zrI, zrV, zrL, nI_mul8, nI_mul16, nI_mul200, nI_1, eq_self, Nat.reduceEqDiff, and_true, true_and, and_false, false_and, and_self, ite_true, ite_false, ↓reduceIte, Nat.add_zero, if_true, if_false, b2i_t, b2i_f, o2i_s, o2i_n]
    intro m hm
    have := h15 m hm
    show rJ t 3 c 3 m = sumL (List.take (pos m) (log ++ [v])) 0
    rw [List.take_append_of_le_length this]
    exact h9 m hm
  · simp only [rI_uI, rI_uJ, rI_uR, rI_wI, rI_wJ, rJ_uJ, rJ_uI, rJ_uR, rJ_wI, rJ_wJ, rR_uR, rR_uI, rR_uJ, rR_wI, rR_wJ, qI_wI, qI_wJ, qI_uI, qI_uJ, qI_uR, qJ_wJ, qJ_wI, qJ_uI, qJ_uJ, qJ_uR, Option.bind_some, zcV_s, zcI_s, zcL_s, zrI, zrV, zrL, nI_mul8, nI_mul16, nI_mul200, nI_1, eq_self, Nat.reduceEqDiff, and_true, true_and, and_false, false_and, and_self, ite_true, ite_false, ↓reduceIte, Nat.add_zero, if_true, if_false, b2i_t, b2i_f, o2i_s, o2i_n]
    exact h10
  · simp only [rI_uI, rI_uJ, rI_uR, rI_wI, rI_wJ, rJ_uJ, rJ_uI, rJ_uR, rJ_wI, rJ_wJ, rR_uR, rR_uI, rR_uJ, rR_wI, rR_wJ, qI_wI, qI_wJ, qI_uI, qI_uJ, qI_uR, qJ_wJ, qJ_wI, qJ_uI, qJ_uJ, qJ_uR, Option.bind_some, zcV_s, zcI_s, zcL_s, zrI, zrV, zrL, nI_mul8, nI_mul16, nI_mul200, nI_1, eq_self, Nat.reduceEqDiff, and_true, true_and, and_false, false_and, and_self, ite_true, ite_false, ↓reduceIte, Nat.add_zero, if_true, if_false, b2i_t, b2i_f, o2i_s, o2i_n]
    exact h11
  · intro m hm
    have := h15 m hm
    omega
  · simp only [rI_uI, rI_uJ, rI_uR, rI_wI, rI_wJ, rJ_uJ, rJ_uI, rJ_uR, rJ_wI, rJ_wJ, rR_uR, rR_uI, rR_uJ, rR_wI, rR_wJ, qI_wI, qI_wJ, qI_uI, qI_uJ, qI_uR, qJ_wJ, qJ_wI, qJ_uI, qJ_uJ, qJ_uR, Option.bind_some, zcV_s, zcI_s, zcL_s, zrI, zrV, zrL, nI_mul8, nI_mul16, nI_mul200, nI_1, eq_self, Nat.reduceEqDiff, and_true, true_and, and_false, false_and, and_self, ite_true, ite_false, ↓reduceIte, Nat.add_zero, if_true, if_false, b2i_t, b2i_f, o2i_s, o2i_n]
    exact if_neg (by omega)
set_option maxHeartbeats 2000000 in
theorem fS_barrierIsNext_eq (o : o3K e c 0) (h : cSo t c log fin stand M pos due) : fS_barrierIsNext (pv e t) n (pL e 3 c 0) = some (.inl (some (.int (b2i (dueN stand pos due)))), pv e t, n) := by
  obtain ⟨h1, h2, h3, h4, h5, h6, h7, h8, h9, h10, h11, h12, h13, h14, h15⟩ := h
  unfold fS_barrierIsNext fS_barrierIsNext_29 zrZ
  cases due with
  | nil =>
    rw [List.length_nil, nI0] at h11
    simp (disch := first | assumption | omega | exact b2i_01 _ | exact Or.inl rfl | exact Or.inr rfl) only [b3 o, bc3 o, f3_0 o, p3_0 o, f3_1 o, p3_1 o, f3_2 o, p3_2 o, f3_3 o, p3_3 o, f3_4 o, f3_5 o, f3_6 o, f3_7 o, f3_8 o, p3_8 o, f3_9 o, p3_9 o, f3_10 o, p3_10 o, f3_11 o, p3_11 o, f3_12 o, p3_12 o, fc3_0 o, pc3_0 o, fc3_1 o, pc3_1 o, fc3_2 o, pc3_2 o, fc3_3 o, pc3_3 o, g3_1 o, a3_1 o, s3_1 o, g3_2 o, a3_2 o, s3_2 o, g3_3 o, a3_3 o, s3_3 o, g3_4 o, z3_4 o, a3_4 o, s3_4 o, rI_uI, rI_uJ, rI_uR, rI_wI, rI_wJ, rJ_uJ, rJ_uI, rJ_uR, rJ_wI, rJ_wJ, rR_uR, rR_uI, rR_uJ, rR_wI, rR_wJ, qI_wI, qI_wJ, qI_uI, qI_uJ, qI_uR, qJ_wJ, qJ_wI, qJ_uI, qJ_uJ, qJ_uR, Option.bind_some, zcV_s, zcI_s, zcL_s, zrI, zrV, zrL, nI_mul8, nI_mul16, nI_mul200, nI_1, eq_self, Nat.reduceEqDiff, and_true, true_and, and_false, false_and, and_self, ite_true, ite_false, ↓reduceIte, Nat.add_zero, if_true, if_false, b2i_t, b2i_f, o2i_s, o2i_n, zdI_s, zdV_s, zdL_s, zcR_s, zcV_x, zcI_x, zcL_x, zcR_x, zrR_s, zth_s, nI_leI, nI_ltI, nI_eq, nI_eq0, nI_eqm1, b2i_eq0, h11, le00, true_or]
    rfl
  | cons d r =>
    have q0 : ¬ nI (d :: r).length ≤ 0 := by rw [show (0 : Int32) = nI 0 from rfl, nI_leI (by omega) (by decide), List.length_cons]; omega
    have hd := h14 d List.mem_cons_self
    have h15d := h15 d hd
    have e1 := hL0 h10
    have e2 : rI t 3 c 2 d = nI (pos d) := h8 d hd
    simp (disch := first | assumption | omega | exact b2i_01 _ | exact Or.inl rfl | exact Or.inr rfl) only [b3 o, bc3 o, f3_0 o, p3_0 o, f3_1 o, p3_1 o, f3_2 o, p3_2 o, f3_3 o, p3_3 o, f3_4 o, f3_5 o, f3_6 o, f3_7 o, f3_8 o, p3_8 o, f3_9 o, p3_9 o, f3_10 o, p3_10 o, f3_11 o, p3_11 o, f3_12 o, p3_12 o, fc3_0 o, pc3_0 o, fc3_1 o, pc3_1 o, fc3_2 o, pc3_2 o, fc3_3 o, pc3_3 o, g3_1 o, a3_1 o, s3_1 o, g3_2 o, a3_2 o, s3_2 o, g3_3 o, a3_3 o, s3_3 o, g3_4 o, z3_4 o, a3_4 o, s3_4 o, rI_uI, rI_uJ, rI_uR, rI_wI, rI_wJ, rJ_uJ, rJ_uI, rJ_uR, rJ_wI, rJ_wJ, rR_uR, rR_uI, rR_uJ, rR_wI, rR_wJ, qI_wI, qI_wJ, qI_uI, qI_uJ, qI_uR, qJ_wJ, qJ_wI, qJ_uI, qJ_uJ, qJ_uR, Option.bind_some, zcV_s, zcI_s, zcL_s, zrI, zrV, zrL, nI_mul8, nI_mul16, nI_mul200, nI_1, eq_self, Nat.reduceEqDiff, and_true, true_and, and_false, false_and, and_self, ite_true, ite_false, ↓reduceIte, Nat.add_zero, if_true, if_false, b2i_t, b2i_f, o2i_s, o2i_n, zdI_s, zdV_s, zdL_s, zcR_s, zcV_x, zcI_x, zcL_x, zcR_x, zrR_s, zth_s, nI_leI, nI_ltI, nI_eq, nI_eq0, nI_eqm1, b2i_eq0, h11, q0, e1, e2, h5, true_or, or_true, show ((1 : Int32) = 0) = False from by decide]
    by_cases q : pos d = stand
    · rw [if_pos q, show dueN stand pos (d :: r) = true from beq_iff_eq.mpr q]
      rfl
    · rw [if_neg q, show dueN stand pos (d :: r) = false from bqf q]
      rfl
set_option maxHeartbeats 2000000 in
theorem fS_nextKind_eq (o : o3K e c 0) (h : cSo t c log fin stand M pos due) {over : Bool} (ho : qI t 3 c 3 = b2i over) : fS_nextKind (pv e t) n (pL e 3 c 0) = some (.inl (some (.int (o2i (sNext over log fin stand pos due)))), pv e t, n) := by
  have hb := fS_barrierIsNext_eq (n := n) o h
  obtain ⟨h1, h2, h3, h4, h5, h6, h7, h8, h9, h10, h11, h12, h13, h14, h15⟩ := h
  unfold fS_nextKind sNext
  simp (disch := first | assumption | omega | exact b2i_01 _ | exact Or.inl rfl | exact Or.inr rfl) only [b3 o, bc3 o, f3_0 o, p3_0 o, f3_1 o, p3_1 o, f3_2 o, p3_2 o, f3_3 o, p3_3 o, f3_4 o, f3_5 o, f3_6 o, f3_7 o, f3_8 o, p3_8 o, f3_9 o, p3_9 o, f3_10 o, p3_10 o, f3_11 o, p3_11 o, f3_12 o, p3_12 o, fc3_0 o, pc3_0 o, fc3_1 o, pc3_1 o, fc3_2 o, pc3_2 o, fc3_3 o, pc3_3 o, g3_1 o, a3_1 o, s3_1 o, g3_2 o, a3_2 o, s3_2 o, g3_3 o, a3_3 o, s3_3 o, g3_4 o, z3_4 o, a3_4 o, s3_4 o, rI_uI, rI_uJ, rI_uR, rI_wI, rI_wJ, rJ_uJ, rJ_uI, rJ_uR, rJ_wI, rJ_wJ, rR_uR, rR_uI, rR_uJ, rR_wI, rR_wJ, qI_wI, qI_wJ, qI_uI, qI_uJ, qI_uR, qJ_wJ, qJ_wI, qJ_uI, qJ_uJ, qJ_uR, Option.bind_some, zcV_s, zcI_s, zcL_s, zrI, zrV, zrL, nI_mul8, nI_mul16, nI_mul200, nI_1, eq_self, Nat.reduceEqDiff, and_true, true_and, and_false, false_and, and_self, ite_true, ite_false, ↓reduceIte, Nat.add_zero, if_true, if_false, b2i_t, b2i_f, o2i_s, o2i_n, zdI_s, zdV_s, zdL_s, zcR_s, zcV_x, zcI_x, zcL_x, zcR_x, zrR_s, zth_s, nI_leI, nI_ltI, nI_eq, nI_eq0, nI_eqm1, b2i_eq0, ho, hb, h2, h5, h7]
  cases over with
  | true => rfl
  | false =>
    cases hd : dueN stand pos due with
    | true => rfl
    | false =>
      by_cases q : stand < log.length
      · simp [q, show ¬ log.length ≤ stand by omega, o2i, nI_0]
      · cases fin <;> simp [q, show log.length ≤ stand by omega, o2i] <;> rfl
def sVal (log : List Int64) (stand : Nat) (pos : Nat → Nat) (due : List Nat) : Int64 := if dueN stand pos due then (match due with | [] => 0 | d :: _ => lN d) else log.getD stand 0
set_option maxHeartbeats 2000000 in
theorem fS_nextValue_eq (o : o3K e c 0) (h : cSo t c log fin stand M pos due) : fS_nextValue (pv e t) n (pL e 3 c 0) = some (.inl (some (.long (sVal log stand pos due))), pv e t, n) := by
  have hb := fS_barrierIsNext_eq (n := n) o h
  obtain ⟨h1, h2, h3, h4, h5, h6, h7, h8, h9, h10, h11, h12, h13, h14, h15⟩ := h
  unfold fS_nextValue sVal
  cases hd : dueN stand pos due with
  | true =>
    cases due with
    | nil => cases hd
    | cons d r =>
      have hdl := h14 d List.mem_cons_self
      have e1 := hL0 h10
      rw [hd] at hb
      simp (disch := first | assumption | omega | exact b2i_01 _ | exact Or.inl rfl | exact Or.inr rfl) only [b3 o, bc3 o, f3_0 o, p3_0 o, f3_1 o, p3_1 o, f3_2 o, p3_2 o, f3_3 o, p3_3 o, f3_4 o, f3_5 o, f3_6 o, f3_7 o, f3_8 o, p3_8 o, f3_9 o, p3_9 o, f3_10 o, p3_10 o, f3_11 o, p3_11 o, f3_12 o, p3_12 o, fc3_0 o, pc3_0 o, fc3_1 o, pc3_1 o, fc3_2 o, pc3_2 o, fc3_3 o, pc3_3 o, g3_1 o, a3_1 o, s3_1 o, g3_2 o, a3_2 o, s3_2 o, g3_3 o, a3_3 o, s3_3 o, g3_4 o, z3_4 o, a3_4 o, s3_4 o, rI_uI, rI_uJ, rI_uR, rI_wI, rI_wJ, rJ_uJ, rJ_uI, rJ_uR, rJ_wI, rJ_wJ, rR_uR, rR_uI, rR_uJ, rR_wI, rR_wJ, qI_wI, qI_wJ, qI_uI, qI_uJ, qI_uR, qJ_wJ, qJ_wI, qJ_uI, qJ_uJ, qJ_uR, Option.bind_some, zcV_s, zcI_s, zcL_s, zrI, zrV, zrL, nI_mul8, nI_mul16, nI_mul200, nI_1, eq_self, Nat.reduceEqDiff, and_true, true_and, and_false, false_and, and_self, ite_true, ite_false, ↓reduceIte, Nat.add_zero, if_true, if_false, b2i_t, b2i_f, o2i_s, o2i_n, zdI_s, zdV_s, zdL_s, zcR_s, zcV_x, zcI_x, zcL_x, zcR_x, zrR_s, zth_s, nI_leI, nI_ltI, nI_eq, nI_eq0, nI_eqm1, b2i_eq0, hb, e1, i10, nI_l (show d < 2 ^ 31 by omega)]
  | false =>
    rw [hd] at hb
    by_cases q : stand < log.length
    · have q2 : ¬ log.length ≤ stand := by omega
      have e1 := h1 stand _ (List.getElem?_eq_getElem q)
      rw [Nat.zero_add] at e1
      simp (disch := first | assumption | omega | exact b2i_01 _ | exact Or.inl rfl | exact Or.inr rfl) only [b3 o, bc3 o, f3_0 o, p3_0 o, f3_1 o, p3_1 o, f3_2 o, p3_2 o, f3_3 o, p3_3 o, f3_4 o, f3_5 o, f3_6 o, f3_7 o, f3_8 o, p3_8 o, f3_9 o, p3_9 o, f3_10 o, p3_10 o, f3_11 o, p3_11 o, f3_12 o, p3_12 o, fc3_0 o, pc3_0 o, fc3_1 o, pc3_1 o, fc3_2 o, pc3_2 o, fc3_3 o, pc3_3 o, g3_1 o, a3_1 o, s3_1 o, g3_2 o, a3_2 o, s3_2 o, g3_3 o, a3_3 o, s3_3 o, g3_4 o, z3_4 o, a3_4 o, s3_4 o, rI_uI, rI_uJ, rI_uR, rI_wI, rI_wJ, rJ_uJ, rJ_uI, rJ_uR, rJ_wI, rJ_wJ, rR_uR, rR_uI, rR_uJ, rR_wI, rR_wJ, qI_wI, qI_wJ, qI_uI, qI_uJ, qI_uR, qJ_wJ, qJ_wI, qJ_uI, qJ_uJ, qJ_uR, Option.bind_some, zcV_s, zcI_s, zcL_s, zrI, zrV, zrL, nI_mul8, nI_mul16, nI_mul200, nI_1, eq_self, Nat.reduceEqDiff, and_true, true_and, and_false, false_and, and_self, ite_true, ite_false, ↓reduceIte, Nat.add_zero, if_true, if_false, b2i_t, b2i_f, o2i_s, o2i_n, zdI_s, zdV_s, zdL_s, zcR_s, zcV_x, zcI_x, zcL_x, zcR_x, zrR_s, zth_s, nI_leI, nI_ltI, nI_eq, nI_eq0, nI_eqm1, b2i_eq0, hb, h2, h5, q2, e1]
      simp [q]
    · have q2 : log.length ≤ stand := by omega
      simp (disch := first | assumption | omega | exact b2i_01 _ | exact Or.inl rfl | exact Or.inr rfl) only [b3 o, bc3 o, f3_0 o, p3_0 o, f3_1 o, p3_1 o, f3_2 o, p3_2 o, f3_3 o, p3_3 o, f3_4 o, f3_5 o, f3_6 o, f3_7 o, f3_8 o, p3_8 o, f3_9 o, p3_9 o, f3_10 o, p3_10 o, f3_11 o, p3_11 o, f3_12 o, p3_12 o, fc3_0 o, pc3_0 o, fc3_1 o, pc3_1 o, fc3_2 o, pc3_2 o, fc3_3 o, pc3_3 o, g3_1 o, a3_1 o, s3_1 o, g3_2 o, a3_2 o, s3_2 o, g3_3 o, a3_3 o, s3_3 o, g3_4 o, z3_4 o, a3_4 o, s3_4 o, rI_uI, rI_uJ, rI_uR, rI_wI, rI_wJ, rJ_uJ, rJ_uI, rJ_uR, rJ_wI, rJ_wJ, rR_uR, rR_uI, rR_uJ, rR_wI, rR_wJ, qI_wI, qI_wJ, qI_uI, qI_uJ, qI_uR, qJ_wJ, qJ_wI, qJ_uI, qJ_uJ, qJ_uR, Option.bind_some, zcV_s, zcI_s, zcL_s, zrI, zrV, zrL, nI_mul8, nI_mul16, nI_mul200, nI_1, eq_self, Nat.reduceEqDiff, and_true, true_and, and_false, false_and, and_self, ite_true, ite_false, ↓reduceIte, Nat.add_zero, if_true, if_false, b2i_t, b2i_f, o2i_s, o2i_n, zdI_s, zdV_s, zdL_s, zcR_s, zcV_x, zcI_x, zcL_x, zcR_x, zrR_s, zth_s, nI_leI, nI_ltI, nI_eq, nI_eq0, nI_eqm1, b2i_eq0, hb, h2, h5, q2]
      simp [q2]
set_option maxHeartbeats 2000000 in
theorem fS_dropBarrier_4_eq (o : o3K e c 0) {m L : Nat} (hm : m < 2 ^ 31) (hL9 : L ≤ 3) : ∀ (r kept : List Nat) (i : Nat) (t : pS) (f : Nat), i + r.length = L → r.length < f → kept.length ≤ i → (∀ z ∈ r, z < 2 ^ 31) → hL (rI t 3 c 4) i r nI → hL (rI t 3 c 4) 0 kept nI → qI t 3 c 8 = nI L → ∃ v, fS_dropBarrier_4 f (pv e t) n (pL e 3 c 0) (nI m) (nI kept.length) (nI i) = some (.inl none, pv e (wI (uI t 3 c 4 v) 3 c 8 (nI (kept ++ r.filter fun z => !(z == m)).length)), n) ∧ hL v 0 (kept ++ r.filter fun z => !(z == m)) nI := by
  intro r
  induction r with
  | nil =>
    intro kept i t f hi hf hk _ a1 b1 hq
    obtain ⟨f, rfl⟩ : ∃ g, f = g + 1 := ⟨f - 1, by omega⟩
    rw [List.length_nil] at hi
    have q : L ≤ i := by omega
    rw [List.filter_nil, List.append_nil]
    refine ⟨rI t 3 c 4, ?_, b1⟩
    rw [uI_self]
    unfold fS_dropBarrier_4
    simp (disch := first | assumption | omega | exact b2i_01 _ | exact Or.inl rfl | exact Or.inr rfl) only [b3 o, bc3 o, f3_0 o, p3_0 o, f3_1 o, p3_1 o, f3_2 o, p3_2 o, f3_3 o, p3_3 o, f3_4 o, f3_5 o, f3_6 o, f3_7 o, f3_8 o, p3_8 o, f3_9 o, p3_9 o, f3_10 o, p3_10 o, f3_11 o, p3_11 o, f3_12 o, p3_12 o, fc3_0 o, pc3_0 o, fc3_1 o, pc3_1 o, fc3_2 o, pc3_2 o, fc3_3 o, pc3_3 o, g3_1 o, a3_1 o, s3_1 o, g3_2 o, a3_2 o, s3_2 o, g3_3 o, a3_3 o, s3_3 o, g3_4 o, z3_4 o, a3_4 o, s3_4 o, rI_uI, rI_uJ, rI_uR, rI_wI, rI_wJ, rJ_uJ, rJ_uI, rJ_uR, rJ_wI, rJ_wJ, rR_uR, rR_uI, rR_uJ, rR_wI, rR_wJ, qI_wI, qI_wJ, qI_uI, qI_uJ, qI_uR, qJ_wJ, qJ_wI, qJ_uI, qJ_uJ, qJ_uR, Option.bind_some, zcV_s, zcI_s, zcL_s, zrI, zrV, zrL, nI_mul8, nI_mul16, nI_mul200, nI_1, eq_self, Nat.reduceEqDiff, and_true, true_and, and_false, false_and, and_self, ite_true, ite_false, ↓reduceIte, Nat.add_zero, if_true, if_false, b2i_t, b2i_f, o2i_s, o2i_n, zdI_s, zdV_s, zdL_s, zcR_s, zcV_x, zcI_x, zcL_x, zcR_x, zrR_s, zth_s, nI_leI, nI_ltI, nI_eq, nI_eq0, nI_eqm1, b2i_eq0, hq, q]
  | cons z r ih =>
    intro kept i t f hi hf hk hz a1 b1 hq
    obtain ⟨f, rfl⟩ : ∃ g, f = g + 1 := ⟨f - 1, by omega⟩
    rw [List.length_cons] at hi hf
    have q : ¬ L ≤ i := by omega
    have hz2 := hz z List.mem_cons_self
    have hzr : ∀ y ∈ r, y < 2 ^ 31 := fun y hy => hz y (List.mem_cons_of_mem _ hy)
    have e1 := hL_hd a1
    have ihs := ih kept (i + 1) t f (by omega) (by omega) (by omega) hzr (hL_tl a1) b1 hq
    have ihk : ∃ v, fS_dropBarrier_4 f (pv e (uI t 3 c 4 (fu (rI t 3 c 4) kept.length (nI z)))) n (pL e 3 c 0) (nI m) (nI (kept.length + 1)) (nI (i + 1)) = some (.inl none, pv e (wI (uI t 3 c 4 v) 3 c 8 (nI (kept ++ (z :: r.filter fun z => !(z == m))).length)), n) ∧ hL v 0 (kept ++ (z :: r.filter fun z => !(z == m))) nI := by
      have := ih (kept ++ [z]) (i + 1) (uI t 3 c 4 (fu (rI t 3 c 4) kept.length (nI z))) f (by omega) (by omega) (by rw [List.length_append, List.length_singleton]; omega) hzr ?_ ?_ hq
      · rw [List.length_append, List.length_singleton, List.append_assoc] at this
        obtain ⟨v, h1, h2⟩ := this
        rw [uI_uI] at h1
        exact ⟨v, h1, h2⟩
      · simp only [rI_uI, rI_uJ, rI_uR, rI_wI, rI_wJ, rJ_uJ, rJ_uI, rJ_uR, rJ_wI, rJ_wJ, rR_uR, rR_uI, rR_uJ, rR_wI, rR_wJ, qI_wI, qI_wJ, qI_uI, qI_uJ, qI_uR, qJ_wJ, qJ_wI, qJ_uI, qJ_uJ, qJ_uR, Option.bind_some, zcV_s, zcI_s, zcL_s, zrI, zrV, zrL, nI_mul8, nI_mul16, nI_mul200, nI_1, eq_self, Nat.reduceEqDiff, and_true, true_and, and_false, false_and, and_self, ite_true, ite_false, ↓reduceIte, Nat.add_zero, if_true, if_false, b2i_t, b2i_f, o2i_s, o2i_n]
        exact hL_out (hL_tl a1) (by omega)
      · simp only [rI_uI, rI_uJ, rI_uR, rI_wI, rI_wJ, rJ_uJ, rJ_uI, rJ_uR, rJ_wI, rJ_wJ, rR_uR, rR_uI, rR_uJ, rR_wI, rR_wJ, qI_wI, qI_wJ, qI_uI, qI_uJ, qI_uR, qJ_wJ, qJ_wI, qJ_uI, qJ_uJ, qJ_uR, Option.bind_some, zcV_s, zcI_s, zcL_s, zrI, zrV, zrL, nI_mul8, nI_mul16, nI_mul200, nI_1, eq_self, Nat.reduceEqDiff, and_true, true_and, and_false, false_and, and_self, ite_true, ite_false, ↓reduceIte, Nat.add_zero, if_true, if_false, b2i_t, b2i_f, o2i_s, o2i_n]
        exact hL_snoc b1 (Nat.zero_add _).symm rfl
    clear ih
    unfold fS_dropBarrier_4 fS_dropBarrier_37
    generalize fS_dropBarrier_4 f = R at ihs ihk ⊢
    have hkb : kept.length < 3 := by omega
    simp (disch := first | assumption | omega | exact b2i_01 _ | exact Or.inl rfl | exact Or.inr rfl) only [b3 o, bc3 o, f3_0 o, p3_0 o, f3_1 o, p3_1 o, f3_2 o, p3_2 o, f3_3 o, p3_3 o, f3_4 o, f3_5 o, f3_6 o, f3_7 o, f3_8 o, p3_8 o, f3_9 o, p3_9 o, f3_10 o, p3_10 o, f3_11 o, p3_11 o, f3_12 o, p3_12 o, fc3_0 o, pc3_0 o, fc3_1 o, pc3_1 o, fc3_2 o, pc3_2 o, fc3_3 o, pc3_3 o, g3_1 o, a3_1 o, s3_1 o, g3_2 o, a3_2 o, s3_2 o, g3_3 o, a3_3 o, s3_3 o, g3_4 o, z3_4 o, a3_4 o, s3_4 o, rI_uI, rI_uJ, rI_uR, rI_wI, rI_wJ, rJ_uJ, rJ_uI, rJ_uR, rJ_wI, rJ_wJ, rR_uR, rR_uI, rR_uJ, rR_wI, rR_wJ, qI_wI, qI_wJ, qI_uI, qI_uJ, qI_uR, qJ_wJ, qJ_wI, qJ_uI, qJ_uJ, qJ_uR, Option.bind_some, zcV_s, zcI_s, zcL_s, zrI, zrV, zrL, nI_mul8, nI_mul16, nI_mul200, nI_1, eq_self, Nat.reduceEqDiff, and_true, true_and, and_false, false_and, and_self, ite_true, ite_false, ↓reduceIte, Nat.add_zero, if_true, if_false, b2i_t, b2i_f, o2i_s, o2i_n, zdI_s, zdV_s, zdL_s, zcR_s, zcV_x, zcI_x, zcL_x, zcR_x, zrR_s, zth_s, nI_leI, nI_ltI, nI_eq, nI_eq0, nI_eqm1, b2i_eq0, hq, q, e1, upd_fu]
    by_cases q1 : z = m
    · rw [if_pos q1, List.filter_cons_of_neg (by rw [q1]; simp)]
      exact ihs
    · rw [if_neg q1, List.filter_cons_of_pos (by rw [bqf q1]; rfl)]
      exact ihk
set_option maxHeartbeats 2000000 in
theorem fS_dropBarrier_eq (o : o3K e c 0) (h : cSo t c log fin stand M pos due) {m : Nat} (hm : m < 2 ^ 31) : ∃ t', fS_dropBarrier (pv e t) n (pL e 3 c 0) (nI m) = some (.inl none, pv e t', n) ∧ cSo t' c log fin stand M pos (due.filter fun z => !(z == m)) ∧ Fr (PO 3 c) t t' ∧ (∀ f, f ≤ 3 → qI t' 3 c f = qI t 3 c f) := by
  obtain ⟨h1, h2, h3, h4, h5, h6, h7, h8, h9, h10, h11, h12, h13, h14, h15⟩ := h
  obtain ⟨v, hv, hl⟩ := fS_dropBarrier_4_eq (n := n) o hm h12 due [] 0 t zF (Nat.zero_add _) (zF_big (by omega)) (Nat.le_refl _) (fun z hz => by have := h14 z hz; omega) h10 (hL_nil _ _ _) h11
  rw [List.nil_append] at hv hl
  unfold fS_dropBarrier
  refine ⟨_, hv, ⟨?_, ?_, h3, ?_, ?_, h6, ?_, ?_, ?_, ?_, ?_, ?_, h13, ?_, h15⟩, Fr.wI (po 3 c) (Fr.uI (po 3 c) (Fr.refl _ _)), fun f hf => ?_⟩
  · simp only [rI_uI, rI_uJ, rI_uR, rI_wI, rI_wJ, rJ_uJ, rJ_uI, rJ_uR, rJ_wI, rJ_wJ, rR_uR, rR_uI, rR_uJ, rR_wI, rR_wJ, qI_wI, qI_wJ, qI_uI, qI_uJ, qI_uR, qJ_wJ, qJ_wI, qJ_uI, qJ_uJ, qJ_uR, Option.bind_some, zcV_s, zcI_s, zcL_s, zrI, zrV, zrL, nI_mul8, nI_mul16, nI_mul200, nI_1, eq_self, Nat.reduceEqDiff, and_true, true_and, and_false, false_and, and_self, ite_true, ite_false, ↓reduceIte, Nat.add_zero, if_true, if_false, b2i_t, b2i_f, o2i_s, o2i_n]
    exact h1
  · simp only [rI_uI, rI_uJ, rI_uR, rI_wI, rI_wJ, rJ_uJ, rJ_uI, rJ_uR, rJ_wI, rJ_wJ, rR_uR, rR_uI, rR_uJ, rR_wI, rR_wJ, qI_wI, qI_wJ, qI_uI, qI_uJ, qI_uR, qJ_wJ, qJ_wI, qJ_uI, qJ_uJ, qJ_uR, Option.bind_some, zcV_s, zcI_s, zcL_s, zrI, zrV, zrL, nI_mul8, nI_mul16, nI_mul200, nI_1, eq_self, Nat.reduceEqDiff, and_true, true_and, and_false, false_and, and_self, ite_true, ite_false, ↓reduceIte, Nat.add_zero, if_true, if_false, b2i_t, b2i_f, o2i_s, o2i_n]
    exact h2
  · simp only [rI_uI, rI_uJ, rI_uR, rI_wI, rI_wJ, rJ_uJ, rJ_uI, rJ_uR, rJ_wI, rJ_wJ, rR_uR, rR_uI, rR_uJ, rR_wI, rR_wJ, qI_wI, qI_wJ, qI_uI, qI_uJ, qI_uR, qJ_wJ, qJ_wI, qJ_uI, qJ_uJ, qJ_uR, Option.bind_some, zcV_s, zcI_s, zcL_s, zrI, zrV, zrL, nI_mul8, nI_mul16, nI_mul200, nI_1, eq_self, Nat.reduceEqDiff, and_true, true_and, and_false, false_and, and_self, ite_true, ite_false, ↓reduceIte, Nat.add_zero, if_true, if_false, b2i_t, b2i_f, o2i_s, o2i_n]
    exact h4
  · simp only [rI_uI, rI_uJ, rI_uR, rI_wI, rI_wJ, rJ_uJ, rJ_uI, rJ_uR, rJ_wI, rJ_wJ, rR_uR, rR_uI, rR_uJ, rR_wI, rR_wJ, qI_wI, qI_wJ, qI_uI, qI_uJ, qI_uR, qJ_wJ, qJ_wI, qJ_uI, qJ_uJ, qJ_uR, Option.bind_some, zcV_s, zcI_s, zcL_s, zrI, zrV, zrL, nI_mul8, nI_mul16, nI_mul200, nI_1, eq_self, Nat.reduceEqDiff, and_true, true_and, and_false, false_and, and_self, ite_true, ite_false, ↓reduceIte, Nat.add_zero, if_true, if_false, b2i_t, b2i_f, o2i_s, o2i_n]
    exact h5
  · simp only [rI_uI, rI_uJ, rI_uR, rI_wI, rI_wJ, rJ_uJ, rJ_uI, rJ_uR, rJ_wI, rJ_wJ, rR_uR, rR_uI, rR_uJ, rR_wI, rR_wJ, qI_wI, qI_wJ, qI_uI, qI_uJ, qI_uR, qJ_wJ, qJ_wI, qJ_uI, qJ_uJ, qJ_uR, Option.bind_some, zcV_s, zcI_s, zcL_s, zrI, zrV, zrL, nI_mul8, nI_mul16, nI_mul200, nI_1, eq_self, Nat.reduceEqDiff, and_true, true_and, and_false, false_and, and_self, ite_true, ite_false, ↓reduceIte, Nat.add_zero, if_true, if_false, b2i_t, b2i_f, o2i_s, o2i_n]
    exact h7
  · simp only [rI_uI, rI_uJ, rI_uR, rI_wI, rI_wJ, rJ_uJ, rJ_uI, rJ_uR, rJ_wI, rJ_wJ, rR_uR, rR_uI, rR_uJ, rR_wI, rR_wJ, qI_wI, qI_wJ, qI_uI, qI_uJ, qI_uR, qJ_wJ, qJ_wI, qJ_uI, qJ_uJ, qJ_uR, Option.bind_some, zcV_s, zcI_s, zcL_s, zrI, zrV, zrL, nI_mul8, nI_mul16, nI_mul200, nI_1, eq_self, Nat.reduceEqDiff, and_true, true_and, and_false, false_and, and_self, ite_true, ite_false, ↓reduceIte, Nat.add_zero, if_true, if_false, b2i_t, b2i_f, o2i_s, o2i_n]
    exact h8
  · simp only [rI_uI, rI_uJ, rI_uR, rI_wI, rI_wJ, rJ_uJ, rJ_uI, rJ_uR, rJ_wI, rJ_wJ, rR_uR, rR_uI, rR_uJ, rR_wI, rR_wJ, qI_wI, qI_wJ, qI_uI, qI_uJ, qI_uR, qJ_wJ, qJ_wI, qJ_uI, qJ_uJ, qJ_uR, Option.bind_some, zcV_s, zcI_s, zcL_s, zrI, zrV, zrL, nI_mul8, nI_mul16, nI_mul200, nI_1, eq_self, Nat.reduceEqDiff, and_true, true_and, and_false, false_and, and_self, ite_true, ite_false, ↓reduceIte, Nat.add_zero, if_true, if_false, b2i_t, b2i_f, o2i_s, o2i_n]
    exact h9
  · simp only [rI_uI, rI_uJ, rI_uR, rI_wI, rI_wJ, rJ_uJ, rJ_uI, rJ_uR, rJ_wI, rJ_wJ, rR_uR, rR_uI, rR_uJ, rR_wI, rR_wJ, qI_wI, qI_wJ, qI_uI, qI_uJ, qI_uR, qJ_wJ, qJ_wI, qJ_uI, qJ_uJ, qJ_uR, Option.bind_some, zcV_s, zcI_s, zcL_s, zrI, zrV, zrL, nI_mul8, nI_mul16, nI_mul200, nI_1, eq_self, Nat.reduceEqDiff, and_true, true_and, and_false, false_and, and_self, ite_true, ite_false, ↓reduceIte, Nat.add_zero, if_true, if_false, b2i_t, b2i_f, o2i_s, o2i_n]
    exact hl
  · simp only [rI_uI, rI_uJ, rI_uR, rI_wI, rI_wJ, rJ_uJ, rJ_uI, rJ_uR, rJ_wI, rJ_wJ, rR_uR, rR_uI, rR_uJ, rR_wI, rR_wJ, qI_wI, qI_wJ, qI_uI, qI_uJ, qI_uR, qJ_wJ, qJ_wI, qJ_uI, qJ_uJ, qJ_uR, Option.bind_some, zcV_s, zcI_s, zcL_s, zrI, zrV, zrL, nI_mul8, nI_mul16, nI_mul200, nI_1, eq_self, Nat.reduceEqDiff, and_true, true_and, and_false, false_and, and_self, ite_true, ite_false, ↓reduceIte, Nat.add_zero, if_true, if_false, b2i_t, b2i_f, o2i_s, o2i_n]
  · exact Nat.le_trans (List.length_filter_le _ _) h12
  · intro d hd
    exact h14 d (List.mem_filter.mp hd).1
  · simp only [rI_uI, rI_uJ, rI_uR, rI_wI, rI_wJ, rJ_uJ, rJ_uI, rJ_uR, rJ_wI, rJ_wJ, rR_uR, rR_uI, rR_uJ, rR_wI, rR_wJ, qI_wI, qI_wJ, qI_uI, qI_uJ, qI_uR, qJ_wJ, qJ_wI, qJ_uI, qJ_uJ, qJ_uR, Option.bind_some, zcV_s, zcI_s, zcL_s, zrI, zrV, zrL, nI_mul8, nI_mul16, nI_mul200, nI_1, eq_self, Nat.reduceEqDiff, and_true, true_and, and_false, false_and, and_self, ite_true, ite_false, ↓reduceIte, Nat.add_zero, if_true, if_false, b2i_t, b2i_f, o2i_s, o2i_n]
    exact if_neg (by omega)
set_option maxHeartbeats 2000000 in
theorem fS_beginMark_eq (o : o3K e c 0) (h : cSo t c log fin stand M pos due) (hM : M < 40) (hd : due.length < 3) : ∃ t', fS_beginMark (pv e t) n (pL e 3 c 0) (nI M) = some (.inl none, pv e t', n) ∧ cSo t' c log fin stand (M + 1) (fu pos M log.length) (due ++ [M]) ∧ Fr (PO 3 c) t t' ∧ (∀ f, f ≤ 3 → qI t' 3 c f = qI t 3 c f) := by
  obtain ⟨h1, h2, h3, h4, h5, h6, h7, h8, h9, h10, h11, h12, h13, h14, h15⟩ := h
  have q0 : ¬ nI M < 0 := nI_nn (by omega)
  have q1 : ¬ 40 ≤ M := by omega
  have q2 : ¬ 3 ≤ due.length := by omega
  unfold fS_beginMark
  simp (disch := first | assumption | omega | exact b2i_01 _ | exact Or.inl rfl | exact Or.inr rfl) only [b3 o, bc3 o, f3_0 o, p3_0 o, f3_1 o, p3_1 o, f3_2 o, p3_2 o, f3_3 o, p3_3 o, f3_4 o, f3_5 o, f3_6 o, f3_7 o, f3_8 o, p3_8 o, f3_9 o, p3_9 o, f3_10 o, p3_10 o, f3_11 o, p3_11 o, f3_12 o, p3_12 o, fc3_0 o, pc3_0 o, fc3_1 o, pc3_1 o, fc3_2 o, pc3_2 o, fc3_3 o, pc3_3 o, g3_1 o, a3_1 o, s3_1 o, g3_2 o, a3_2 o, s3_2 o, g3_3 o, a3_3 o, s3_3 o, g3_4 o, z3_4 o, a3_4 o, s3_4 o, rI_uI, rI_uJ, rI_uR, rI_wI, rI_wJ, rJ_uJ, rJ_uI, rJ_uR, rJ_wI, rJ_wJ, rR_uR, rR_uI, rR_uJ, rR_wI, rR_wJ, qI_wI, qI_wJ, qI_uI, qI_uJ, qI_uR, qJ_wJ, qJ_wI, qJ_uI, qJ_uJ, qJ_uR, Option.bind_some, zcV_s, zcI_s, zcL_s, zrI, zrV, zrL, nI_mul8, nI_mul16, nI_mul200, nI_1, eq_self, Nat.reduceEqDiff, and_true, true_and, and_false, false_and, and_self, ite_true, ite_false, ↓reduceIte, Nat.add_zero, if_true, if_false, b2i_t, b2i_f, o2i_s, o2i_n, zdI_s, zdV_s, zdL_s, zcR_s, zcV_x, zcI_x, zcL_x, zcR_x, zrR_s, zth_s, nI_leI, nI_ltI, nI_eq, nI_eq0, nI_eqm1, b2i_eq0, h2, h4, h11, q0, q1, q2, upd_fu, updL_fu]
  refine ⟨_, rfl, ⟨?_, ?_, h3, ?_, ?_, h6, ?_, ?_, ?_, ?_, ?_, ?_, ?_, ?_, ?_⟩, Fr.wI (po 3 c) (Fr.uI (po 3 c) (Fr.uJ (po 3 c) (Fr.uI (po 3 c) (Fr.refl _ _)))), fun f hf => ?_⟩
  · simp only [rI_uI, rI_uJ, rI_uR, rI_wI, rI_wJ, rJ_uJ, rJ_uI, rJ_uR, rJ_wI, rJ_wJ, rR_uR, rR_uI, rR_uJ, rR_wI, rR_wJ, qI_wI, qI_wJ, qI_uI, qI_uJ, qI_uR, qJ_wJ, qJ_wI, qJ_uI, qJ_uJ, qJ_uR, Option.bind_some, zcV_s, zcI_s, zcL_s, zrI, zrV, zrL, nI_mul8, nI_mul16, nI_mul200, nI_1, eq_self, Nat.reduceEqDiff, and_true, true_and, and_false, false_and, and_self, ite_true, ite_false, ↓reduceIte, Nat.add_zero, if_true, if_false, b2i_t, b2i_f, o2i_s, o2i_n]
    exact h1
  · simp only [rI_uI, rI_uJ, rI_uR, rI_wI, rI_wJ, rJ_uJ, rJ_uI, rJ_uR, rJ_wI, rJ_wJ, rR_uR, rR_uI, rR_uJ, rR_wI, rR_wJ, qI_wI, qI_wJ, qI_uI, qI_uJ, qI_uR, qJ_wJ, qJ_wI, qJ_uI, qJ_uJ, qJ_uR, Option.bind_some, zcV_s, zcI_s, zcL_s, zrI, zrV, zrL, nI_mul8, nI_mul16, nI_mul200, nI_1, eq_self, Nat.reduceEqDiff, and_true, true_and, and_false, false_and, and_self, ite_true, ite_false, ↓reduceIte, Nat.add_zero, if_true, if_false, b2i_t, b2i_f, o2i_s, o2i_n]
    exact h2
  · simp only [rI_uI, rI_uJ, rI_uR, rI_wI, rI_wJ, rJ_uJ, rJ_uI, rJ_uR, rJ_wI, rJ_wJ, rR_uR, rR_uI, rR_uJ, rR_wI, rR_wJ, qI_wI, qI_wJ, qI_uI, qI_uJ, qI_uR, qJ_wJ, qJ_wI, qJ_uI, qJ_uJ, qJ_uR, Option.bind_some, zcV_s, zcI_s, zcL_s, zrI, zrV, zrL, nI_mul8, nI_mul16, nI_mul200, nI_1, eq_self, Nat.reduceEqDiff, and_true, true_and, and_false, false_and, and_self, ite_true, ite_false, ↓reduceIte, Nat.add_zero, if_true, if_false, b2i_t, b2i_f, o2i_s, o2i_n]
    exact h4
  · simp only [rI_uI, rI_uJ, rI_uR, rI_wI, rI_wJ, rJ_uJ, rJ_uI, rJ_uR, rJ_wI, rJ_wJ, rR_uR, rR_uI, rR_uJ, rR_wI, rR_wJ, qI_wI, qI_wJ, qI_uI, qI_uJ, qI_uR, qJ_wJ, qJ_wI, qJ_uI, qJ_uJ, qJ_uR, Option.bind_some, zcV_s, zcI_s, zcL_s, zrI, zrV, zrL, nI_mul8, nI_mul16, nI_mul200, nI_1, eq_self, Nat.reduceEqDiff, and_true, true_and, and_false, false_and, and_self, ite_true, ite_false, ↓reduceIte, Nat.add_zero, if_true, if_false, b2i_t, b2i_f, o2i_s, o2i_n]
    exact h5
  · simp only [rI_uI, rI_uJ, rI_uR, rI_wI, rI_wJ, rJ_uJ, rJ_uI, rJ_uR, rJ_wI, rJ_wJ, rR_uR, rR_uI, rR_uJ, rR_wI, rR_wJ, qI_wI, qI_wJ, qI_uI, qI_uJ, qI_uR, qJ_wJ, qJ_wI, qJ_uI, qJ_uJ, qJ_uR, Option.bind_some, zcV_s, zcI_s, zcL_s, zrI, zrV, zrL, nI_mul8, nI_mul16, nI_mul200, nI_1, eq_self, Nat.reduceEqDiff, and_true, true_and, and_false, false_and, and_self, ite_true, ite_false, ↓reduceIte, Nat.add_zero, if_true, if_false, b2i_t, b2i_f, o2i_s, o2i_n]
    exact h7
  · simp only [rI_uI, rI_uJ, rI_uR, rI_wI, rI_wJ, rJ_uJ, rJ_uI, rJ_uR, rJ_wI, rJ_wJ, rR_uR, rR_uI, rR_uJ, rR_wI, rR_wJ, qI_wI, qI_wJ, qI_uI, qI_uJ, qI_uR, qJ_wJ, qJ_wI, qJ_uI, qJ_uJ, qJ_uR, Option.bind_some, zcV_s, zcI_s, zcL_s, zrI, zrV, zrL, nI_mul8, nI_mul16, nI_mul200, nI_1, eq_self, Nat.reduceEqDiff, and_true, true_and, and_false, false_and, and_self, ite_true, ite_false, ↓reduceIte, Nat.add_zero, if_true, if_false, b2i_t, b2i_f, o2i_s, o2i_n]
    exact hI_snoc nI h8 rfl
  · simp only [rI_uI, rI_uJ, rI_uR, rI_wI, rI_wJ, rJ_uJ, rJ_uI, rJ_uR, rJ_wI, rJ_wJ, rR_uR, rR_uI, rR_uJ, rR_wI, rR_wJ, qI_wI, qI_wJ, qI_uI, qI_uJ, qI_uR, qJ_wJ, qJ_wI, qJ_uI, qJ_uJ, qJ_uR, Option.bind_some, zcV_s, zcI_s, zcL_s, zrI, zrV, zrL, nI_mul8, nI_mul16, nI_mul200, nI_1, eq_self, Nat.reduceEqDiff, and_true, true_and, and_false, false_and, and_self, ite_true, ite_false, ↓reduceIte, Nat.add_zero, if_true, if_false, b2i_t, b2i_f, o2i_s, o2i_n]
    refine hI_snoc (fun k => sumL (log.take k) 0) h9 ?_
    rw [List.take_length]
  · simp only [rI_uI, rI_uJ, rI_uR, rI_wI, rI_wJ, rJ_uJ, rJ_uI, rJ_uR, rJ_wI, rJ_wJ, rR_uR, rR_uI, rR_uJ, rR_wI, rR_wJ, qI_wI, qI_wJ, qI_uI, qI_uJ, qI_uR, qJ_wJ, qJ_wI, qJ_uI, qJ_uJ, qJ_uR, Option.bind_some, zcV_s, zcI_s, zcL_s, zrI, zrV, zrL, nI_mul8, nI_mul16, nI_mul200, nI_1, eq_self, Nat.reduceEqDiff, and_true, true_and, and_false, false_and, and_self, ite_true, ite_false, ↓reduceIte, Nat.add_zero, if_true, if_false, b2i_t, b2i_f, o2i_s, o2i_n]
    exact hL_snoc h10 (Nat.zero_add _).symm rfl
  · simp only [rI_uI, rI_uJ, rI_uR, rI_wI, rI_wJ, rJ_uJ, rJ_uI, rJ_uR, rJ_wI, rJ_wJ, rR_uR, rR_uI, rR_uJ, rR_wI, rR_wJ, qI_wI, qI_wJ, qI_uI, qI_uJ, qI_uR, qJ_wJ, qJ_wI, qJ_uI, qJ_uJ, qJ_uR, Option.bind_some, zcV_s, zcI_s, zcL_s, zrI, zrV, zrL, nI_mul8, nI_mul16, nI_mul200, nI_1, eq_self, Nat.reduceEqDiff, and_true, true_and, and_false, false_and, and_self, ite_true, ite_false, ↓reduceIte, Nat.add_zero, if_true, if_false, b2i_t, b2i_f, o2i_s, o2i_n]
    rw [List.length_append, List.length_singleton]
  · rw [List.length_append, List.length_singleton]; omega
  · omega
  · intro d hd
    rcases List.mem_append.mp hd with hd | hd
    · have := h14 d hd; omega
    · rw [List.mem_singleton.mp hd]; omega
  · intro m hm
    show (if m = M then log.length else pos m) ≤ log.length
    split
    · exact Nat.le_refl _
    · exact h15 m (by omega)
  · simp only [rI_uI, rI_uJ, rI_uR, rI_wI, rI_wJ, rJ_uJ, rJ_uI, rJ_uR, rJ_wI, rJ_wJ, rR_uR, rR_uI, rR_uJ, rR_wI, rR_wJ, qI_wI, qI_wJ, qI_uI, qI_uJ, qI_uR, qJ_wJ, qJ_wI, qJ_uI, qJ_uJ, qJ_uR, Option.bind_some, zcV_s, zcI_s, zcL_s, zrI, zrV, zrL, nI_mul8, nI_mul16, nI_mul200, nI_1, eq_self, Nat.reduceEqDiff, and_true, true_and, and_false, false_and, and_self, ite_true, ite_false, ↓reduceIte, Nat.add_zero, if_true, if_false, b2i_t, b2i_f, o2i_s, o2i_n]
    exact if_neg (by omega)
set_option maxHeartbeats 2000000 in
theorem fS_goBack_eq (o : o3K e c 0) (h : cSo t c log fin stand M pos due) {m : Nat} (hm : m < M) : ∃ t', fS_goBack (pv e t) n (pL e 3 c 0) (nI m) = some (.inl none, pv e t', n) ∧ cSo t' c log fin (pos m) M pos due ∧ Fr (PO 3 c) t t' ∧ (∀ f, f ≤ 3 → qI t' 3 c f = qI t 3 c f) := by
  obtain ⟨h1, h2, h3, h4, h5, h6, h7, h8, h9, h10, h11, h12, h13, h14, h15⟩ := h
  have q0 : ¬ nI m < 0 := nI_nn (by omega)
  have q1 : ¬ 40 ≤ m := by omega
  have e2 : rI t 3 c 2 m = nI (pos m) := h8 m hm
  unfold fS_goBack
  simp (disch := first | assumption | omega | exact b2i_01 _ | exact Or.inl rfl | exact Or.inr rfl) only [b3 o, bc3 o, f3_0 o, p3_0 o, f3_1 o, p3_1 o, f3_2 o, p3_2 o, f3_3 o, p3_3 o, f3_4 o, f3_5 o, f3_6 o, f3_7 o, f3_8 o, p3_8 o, f3_9 o, p3_9 o, f3_10 o, p3_10 o, f3_11 o, p3_11 o, f3_12 o, p3_12 o, fc3_0 o, pc3_0 o, fc3_1 o, pc3_1 o, fc3_2 o, pc3_2 o, fc3_3 o, pc3_3 o, g3_1 o, a3_1 o, s3_1 o, g3_2 o, a3_2 o, s3_2 o, g3_3 o, a3_3 o, s3_3 o, g3_4 o, z3_4 o, a3_4 o, s3_4 o, rI_uI, rI_uJ, rI_uR, rI_wI, rI_wJ, rJ_uJ, rJ_uI, rJ_uR, rJ_wI, rJ_wJ, rR_uR, rR_uI, rR_uJ, rR_wI, rR_wJ, qI_wI, qI_wJ, qI_uI, qI_uJ, qI_uR, qJ_wJ, qJ_wI, qJ_uI, qJ_uJ, qJ_uR, Option.bind_some, zcV_s, zcI_s, zcL_s, zrI, zrV, zrL, nI_mul8, nI_mul16, nI_mul200, nI_1, eq_self, Nat.reduceEqDiff, and_true, true_and, and_false, false_and, and_self, ite_true, ite_false, ↓reduceIte, Nat.add_zero, if_true, if_false, b2i_t, b2i_f, o2i_s, o2i_n, zdI_s, zdV_s, zdL_s, zcR_s, zcV_x, zcI_x, zcL_x, zcR_x, zrR_s, zth_s, nI_leI, nI_ltI, nI_eq, nI_eq0, nI_eqm1, b2i_eq0, q0, q1, e2]
  refine ⟨_, rfl, ⟨?_, ?_, h3, ?_, ?_, h15 m hm, ?_, ?_, ?_, ?_, ?_, h12, h13, h14, h15⟩, Fr.wI (po 3 c) (Fr.refl _ _), fun f hf => ?_⟩
  · simp only [rI_uI, rI_uJ, rI_uR, rI_wI, rI_wJ, rJ_uJ, rJ_uI, rJ_uR, rJ_wI, rJ_wJ, rR_uR, rR_uI, rR_uJ, rR_wI, rR_wJ, qI_wI, qI_wJ, qI_uI, qI_uJ, qI_uR, qJ_wJ, qJ_wI, qJ_uI, qJ_uJ, qJ_uR, Option.bind_some, zcV_s, zcI_s, zcL_s, zrI, zrV, zrL, nI_mul8, nI_mul16, nI_mul200, nI_1, eq_self, Nat.reduceEqDiff, and_true, true_and, and_false, false_and, and_self, ite_true, ite_false, ↓reduceIte, Nat.add_zero, if_true, if_false, b2i_t, b2i_f, o2i_s, o2i_n]
    exact h1
  · simp only [rI_uI, rI_uJ, rI_uR, rI_wI, rI_wJ, rJ_uJ, rJ_uI, rJ_uR, rJ_wI, rJ_wJ, rR_uR, rR_uI, rR_uJ, rR_wI, rR_wJ, qI_wI, qI_wJ, qI_uI, qI_uJ, qI_uR, qJ_wJ, qJ_wI, qJ_uI, qJ_uJ, qJ_uR, Option.bind_some, zcV_s, zcI_s, zcL_s, zrI, zrV, zrL, nI_mul8, nI_mul16, nI_mul200, nI_1, eq_self, Nat.reduceEqDiff, and_true, true_and, and_false, false_and, and_self, ite_true, ite_false, ↓reduceIte, Nat.add_zero, if_true, if_false, b2i_t, b2i_f, o2i_s, o2i_n]
    exact h2
  · simp only [rI_uI, rI_uJ, rI_uR, rI_wI, rI_wJ, rJ_uJ, rJ_uI, rJ_uR, rJ_wI, rJ_wJ, rR_uR, rR_uI, rR_uJ, rR_wI, rR_wJ, qI_wI, qI_wJ, qI_uI, qI_uJ, qI_uR, qJ_wJ, qJ_wI, qJ_uI, qJ_uJ, qJ_uR, Option.bind_some, zcV_s, zcI_s, zcL_s, zrI, zrV, zrL, nI_mul8, nI_mul16, nI_mul200, nI_1, eq_self, Nat.reduceEqDiff, and_true, true_and, and_false, false_and, and_self, ite_true, ite_false, ↓reduceIte, Nat.add_zero, if_true, if_false, b2i_t, b2i_f, o2i_s, o2i_n]
    exact h4
  · simp only [rI_uI, rI_uJ, rI_uR, rI_wI, rI_wJ, rJ_uJ, rJ_uI, rJ_uR, rJ_wI, rJ_wJ, rR_uR, rR_uI, rR_uJ, rR_wI, rR_wJ, qI_wI, qI_wJ, qI_uI, qI_uJ, qI_uR, qJ_wJ, qJ_wI, qJ_uI, qJ_uJ, qJ_uR, Option.bind_some, zcV_s, zcI_s, zcL_s, zrI, zrV, zrL, nI_mul8, nI_mul16, nI_mul200, nI_1, eq_self, Nat.reduceEqDiff, and_true, true_and, and_false, false_and, and_self, ite_true, ite_false, ↓reduceIte, Nat.add_zero, if_true, if_false, b2i_t, b2i_f, o2i_s, o2i_n]
  · simp only [rI_uI, rI_uJ, rI_uR, rI_wI, rI_wJ, rJ_uJ, rJ_uI, rJ_uR, rJ_wI, rJ_wJ, rR_uR, rR_uI, rR_uJ, rR_wI, rR_wJ, qI_wI, qI_wJ, qI_uI, qI_uJ, qI_uR, qJ_wJ, qJ_wI, qJ_uI, qJ_uJ, qJ_uR, Option.bind_some, zcV_s, zcI_s, zcL_s, zrI, zrV, zrL, nI_mul8, nI_mul16, nI_mul200, nI_1, eq_self, Nat.reduceEqDiff, and_true, true_and, and_false, false_and, and_self, ite_true, ite_false, ↓reduceIte, Nat.add_zero, if_true, if_false, b2i_t, b2i_f, o2i_s, o2i_n]
    exact h7
  · simp only [rI_uI, rI_uJ, rI_uR, rI_wI, rI_wJ, rJ_uJ, rJ_uI, rJ_uR, rJ_wI, rJ_wJ, rR_uR, rR_uI, rR_uJ, rR_wI, rR_wJ, qI_wI, qI_wJ, qI_uI, qI_uJ, qI_uR, qJ_wJ, qJ_wI, qJ_uI, qJ_uJ, qJ_uR, Option.bind_some, zcV_s, zcI_s, zcL_s, zrI, zrV, zrL, nI_mul8, nI_mul16, nI_mul200, nI_1, eq_self, Nat.reduceEqDiff, and_true, true_and, and_false, false_and, and_self, ite_true, ite_false, ↓reduceIte, Nat.add_zero, if_true, if_false, b2i_t, b2i_f, o2i_s, o2i_n]
    exact h8
  · simp only [rI_uI, rI_uJ, rI_uR, rI_wI, rI_wJ, rJ_uJ, rJ_uI, rJ_uR, rJ_wI, rJ_wJ, rR_uR, rR_uI, rR_uJ, rR_wI, rR_wJ, qI_wI, qI_wJ, qI_uI, qI_uJ, qI_uR, qJ_wJ, qJ_wI, qJ_uI, qJ_uJ, qJ_uR, Option.bind_some, zcV_s, zcI_s, zcL_s, zrI, zrV, zrL, nI_mul8, nI_mul16, nI_mul200, nI_1, eq_self, Nat.reduceEqDiff, and_true, true_and, and_false, false_and, and_self, ite_true, ite_false, ↓reduceIte, Nat.add_zero, if_true, if_false, b2i_t, b2i_f, o2i_s, o2i_n]
    exact h9
  · simp only [rI_uI, rI_uJ, rI_uR, rI_wI, rI_wJ, rJ_uJ, rJ_uI, rJ_uR, rJ_wI, rJ_wJ, rR_uR, rR_uI, rR_uJ, rR_wI, rR_wJ, qI_wI, qI_wJ, qI_uI, qI_uJ, qI_uR, qJ_wJ, qJ_wI, qJ_uI, qJ_uJ, qJ_uR, Option.bind_some, zcV_s, zcI_s, zcL_s, zrI, zrV, zrL, nI_mul8, nI_mul16, nI_mul200, nI_1, eq_self, Nat.reduceEqDiff, and_true, true_and, and_false, false_and, and_self, ite_true, ite_false, ↓reduceIte, Nat.add_zero, if_true, if_false, b2i_t, b2i_f, o2i_s, o2i_n]
    exact h10
  · simp only [rI_uI, rI_uJ, rI_uR, rI_wI, rI_wJ, rJ_uJ, rJ_uI, rJ_uR, rJ_wI, rJ_wJ, rR_uR, rR_uI, rR_uJ, rR_wI, rR_wJ, qI_wI, qI_wJ, qI_uI, qI_uJ, qI_uR, qJ_wJ, qJ_wI, qJ_uI, qJ_uJ, qJ_uR, Option.bind_some, zcV_s, zcI_s, zcL_s, zrI, zrV, zrL, nI_mul8, nI_mul16, nI_mul200, nI_1, eq_self, Nat.reduceEqDiff, and_true, true_and, and_false, false_and, and_self, ite_true, ite_false, ↓reduceIte, Nat.add_zero, if_true, if_false, b2i_t, b2i_f, o2i_s, o2i_n]
    exact h11
  · simp only [rI_uI, rI_uJ, rI_uR, rI_wI, rI_wJ, rJ_uJ, rJ_uI, rJ_uR, rJ_wI, rJ_wJ, rR_uR, rR_uI, rR_uJ, rR_wI, rR_wJ, qI_wI, qI_wJ, qI_uI, qI_uJ, qI_uR, qJ_wJ, qJ_wI, qJ_uI, qJ_uJ, qJ_uR, Option.bind_some, zcV_s, zcI_s, zcL_s, zrI, zrV, zrL, nI_mul8, nI_mul16, nI_mul200, nI_1, eq_self, Nat.reduceEqDiff, and_true, true_and, and_false, false_and, and_self, ite_true, ite_false, ↓reduceIte, Nat.add_zero, if_true, if_false, b2i_t, b2i_f, o2i_s, o2i_n]
    exact if_neg (by omega)
set_option maxHeartbeats 2000000 in
theorem fS_left_eq (o : o3K e c 0) (h : cSo t c log fin stand M pos due) : fS_left (pv e t) n (pL e 3 c 0) = some (.inl (some (.int (nI log.length - nI stand))), pv e t, n) := by
  unfold fS_left
  simp (disch := first | assumption | omega | exact b2i_01 _ | exact Or.inl rfl | exact Or.inr rfl) only [b3 o, bc3 o, f3_0 o, p3_0 o, f3_1 o, p3_1 o, f3_2 o, p3_2 o, f3_3 o, p3_3 o, f3_4 o, f3_5 o, f3_6 o, f3_7 o, f3_8 o, p3_8 o, f3_9 o, p3_9 o, f3_10 o, p3_10 o, f3_11 o, p3_11 o, f3_12 o, p3_12 o, fc3_0 o, pc3_0 o, fc3_1 o, pc3_1 o, fc3_2 o, pc3_2 o, fc3_3 o, pc3_3 o, g3_1 o, a3_1 o, s3_1 o, g3_2 o, a3_2 o, s3_2 o, g3_3 o, a3_3 o, s3_3 o, g3_4 o, z3_4 o, a3_4 o, s3_4 o, rI_uI, rI_uJ, rI_uR, rI_wI, rI_wJ, rJ_uJ, rJ_uI, rJ_uR, rJ_wI, rJ_wJ, rR_uR, rR_uI, rR_uJ, rR_wI, rR_wJ, qI_wI, qI_wJ, qI_uI, qI_uJ, qI_uR, qJ_wJ, qJ_wI, qJ_uI, qJ_uJ, qJ_uR, Option.bind_some, zcV_s, zcI_s, zcL_s, zrI, zrV, zrL, nI_mul8, nI_mul16, nI_mul200, nI_1, eq_self, Nat.reduceEqDiff, and_true, true_and, and_false, false_and, and_self, ite_true, ite_false, ↓reduceIte, Nat.add_zero, if_true, if_false, b2i_t, b2i_f, o2i_s, o2i_n, zdI_s, zdV_s, zdL_s, zcR_s, zcV_x, zcI_x, zcL_x, zcR_x, zrR_s, zth_s, nI_leI, nI_ltI, nI_eq, nI_eq0, nI_eqm1, b2i_eq0, h.2.1, h.2.2.2.2.1]
set_option maxHeartbeats 2000000 in
theorem fS_passNext_row (o : o3K e c 0) (h : cSo t c log fin stand M pos due) (hd : dueN stand pos due = false) (hl : stand < log.length) : ∃ t', fS_passNext (pv e t) n (pL e 3 c 0) = some (.inl none, pv e t', n) ∧ cSo t' c log fin (stand + 1) M pos due ∧ Fr (PO 3 c) t t' ∧ (∀ f, f ≤ 3 → qI t' 3 c f = qI t 3 c f) := by
  have hb := fS_barrierIsNext_eq (n := n) o h
  rw [hd] at hb
  obtain ⟨h1, h2, h3, h4, h5, h6, h7, h8, h9, h10, h11, h12, h13, h14, h15⟩ := h
  have q2 : ¬ log.length ≤ stand := by omega
  unfold fS_passNext
  simp (disch := first | assumption | omega | exact b2i_01 _ | exact Or.inl rfl | exact Or.inr rfl) only [b3 o, bc3 o, f3_0 o, p3_0 o, f3_1 o, p3_1 o, f3_2 o, p3_2 o, f3_3 o, p3_3 o, f3_4 o, f3_5 o, f3_6 o, f3_7 o, f3_8 o, p3_8 o, f3_9 o, p3_9 o, f3_10 o, p3_10 o, f3_11 o, p3_11 o, f3_12 o, p3_12 o, fc3_0 o, pc3_0 o, fc3_1 o, pc3_1 o, fc3_2 o, pc3_2 o, fc3_3 o, pc3_3 o, g3_1 o, a3_1 o, s3_1 o, g3_2 o, a3_2 o, s3_2 o, g3_3 o, a3_3 o, s3_3 o, g3_4 o, z3_4 o, a3_4 o, s3_4 o, rI_uI, rI_uJ, rI_uR, rI_wI, rI_wJ, rJ_uJ, rJ_uI, rJ_uR, rJ_wI, rJ_wJ, rR_uR, rR_uI, rR_uJ, rR_wI, rR_wJ, qI_wI, qI_wJ, qI_uI, qI_uJ, qI_uR, qJ_wJ, qJ_wI, qJ_uI, qJ_uJ, qJ_uR, Option.bind_some, zcV_s, zcI_s, zcL_s, zrI, zrV, zrL, nI_mul8, nI_mul16, nI_mul200, nI_1, eq_self, Nat.reduceEqDiff, and_true, true_and, and_false, false_and, and_self, ite_true, ite_false, ↓reduceIte, Nat.add_zero, if_true, if_false, b2i_t, b2i_f, o2i_s, o2i_n, zdI_s, zdV_s, zdL_s, zcR_s, zcV_x, zcI_x, zcL_x, zcR_x, zrR_s, zth_s, nI_leI, nI_ltI, nI_eq, nI_eq0, nI_eqm1, b2i_eq0, hb, h2, h5, q2]
  refine ⟨_, rfl, ⟨?_, ?_, h3, ?_, ?_, by omega, ?_, ?_, ?_, ?_, ?_, h12, h13, h14, h15⟩, Fr.wI (po 3 c) (Fr.refl _ _), fun f hf => ?_⟩
  · simp only [rI_uI, rI_uJ, rI_uR, rI_wI, rI_wJ, rJ_uJ, rJ_uI, rJ_uR, rJ_wI, rJ_wJ, rR_uR, rR_uI, rR_uJ, rR_wI, rR_wJ, qI_wI, qI_wJ, qI_uI, qI_uJ, qI_uR, qJ_wJ, qJ_wI, qJ_uI, qJ_uJ, qJ_uR, Option.bind_some, zcV_s, zcI_s, zcL_s, zrI, zrV, zrL, nI_mul8, nI_mul16, nI_mul200, nI_1, eq_self, Nat.reduceEqDiff, and_true, true_and, and_false, false_and, and_self, ite_true, ite_false, ↓reduceIte, Nat.add_zero, if_true, if_false, b2i_t, b2i_f, o2i_s, o2i_n]
    exact h1
  · simp only [rI_uI, rI_uJ, rI_uR, rI_wI, rI_wJ, rJ_uJ, rJ_uI, rJ_uR, rJ_wI, rJ_wJ, rR_uR, rR_uI, rR_uJ, rR_wI, rR_wJ, qI_wI, qI_wJ, qI_uI, qI_uJ, qI_uR, qJ_wJ, qJ_wI, qJ_uI, qJ_uJ, qJ_uR, Option.bind_some, zcV_s, zcI_s, zcL_s, zrI, zrV, zrL, nI_mul8, nI_mul16, nI_mul200, nI_1, eq_self, Nat.reduceEqDiff, and_true, true_and, and_false, false_and, and_self, ite_true, ite_false, ↓reduceIte, Nat.add_zero, if_true, if_false, b2i_t, b2i_f, o2i_s, o2i_n]
    exact h2
  · simp only [rI_uI, rI_uJ, rI_uR, rI_wI, rI_wJ, rJ_uJ, rJ_uI, rJ_uR, rJ_wI, rJ_wJ, rR_uR, rR_uI, rR_uJ, rR_wI, rR_wJ, qI_wI, qI_wJ, qI_uI, qI_uJ, qI_uR, qJ_wJ, qJ_wI, qJ_uI, qJ_uJ, qJ_uR, Option.bind_some, zcV_s, zcI_s, zcL_s, zrI, zrV, zrL, nI_mul8, nI_mul16, nI_mul200, nI_1, eq_self, Nat.reduceEqDiff, and_true, true_and, and_false, false_and, and_self, ite_true, ite_false, ↓reduceIte, Nat.add_zero, if_true, if_false, b2i_t, b2i_f, o2i_s, o2i_n]
    exact h4
  · simp only [rI_uI, rI_uJ, rI_uR, rI_wI, rI_wJ, rJ_uJ, rJ_uI, rJ_uR, rJ_wI, rJ_wJ, rR_uR, rR_uI, rR_uJ, rR_wI, rR_wJ, qI_wI, qI_wJ, qI_uI, qI_uJ, qI_uR, qJ_wJ, qJ_wI, qJ_uI, qJ_uJ, qJ_uR, Option.bind_some, zcV_s, zcI_s, zcL_s, zrI, zrV, zrL, nI_mul8, nI_mul16, nI_mul200, nI_1, eq_self, Nat.reduceEqDiff, and_true, true_and, and_false, false_and, and_self, ite_true, ite_false, ↓reduceIte, Nat.add_zero, if_true, if_false, b2i_t, b2i_f, o2i_s, o2i_n]
  · simp only [rI_uI, rI_uJ, rI_uR, rI_wI, rI_wJ, rJ_uJ, rJ_uI, rJ_uR, rJ_wI, rJ_wJ, rR_uR, rR_uI, rR_uJ, rR_wI, rR_wJ, qI_wI, qI_wJ, qI_uI, qI_uJ, qI_uR, qJ_wJ, qJ_wI, qJ_uI, qJ_uJ, qJ_uR, Option.bind_some, zcV_s, zcI_s, zcL_s, zrI, zrV, zrL, nI_mul8, nI_mul16, nI_mul200, nI_1, eq_self, Nat.reduceEqDiff, and_true, true_and, and_false, false_and, and_self, ite_true, ite_false, ↓reduceIte, Nat.add_zero, if_true, if_false, b2i_t, b2i_f, o2i_s, o2i_n]
    exact h7
  · simp only [rI_uI, rI_uJ, rI_uR, rI_wI, rI_wJ, rJ_uJ, rJ_uI, rJ_uR, rJ_wI, rJ_wJ, rR_uR, rR_uI, rR_uJ, rR_wI, rR_wJ, qI_wI, qI_wJ, qI_uI, qI_uJ, qI_uR, qJ_wJ, qJ_wI, qJ_uI, qJ_uJ, qJ_uR, Option.bind_some, zcV_s, zcI_s, zcL_s, zrI, zrV, zrL, nI_mul8, nI_mul16, nI_mul200, nI_1, eq_self, Nat.reduceEqDiff, and_true, true_and, and_false, false_and, and_self, ite_true, ite_false, ↓reduceIte, Nat.add_zero, if_true, if_false, b2i_t, b2i_f, o2i_s, o2i_n]
    exact h8
  · simp only [rI_uI, rI_uJ, rI_uR, rI_wI, rI_wJ, rJ_uJ, rJ_uI, rJ_uR, rJ_wI, rJ_wJ, rR_uR, rR_uI, rR_uJ, rR_wI, rR_wJ, qI_wI, qI_wJ, qI_uI, qI_uJ, qI_uR, qJ_wJ, qJ_wI, qJ_uI, qJ_uJ, qJ_uR, Option.bind_some, zcV_s, zcI_s, zcL_s, zrI, zrV, zrL, nI_mul8, nI_mul16, nI_mul200, nI_1, eq_self, Nat.reduceEqDiff, and_true, true_and, and_false, false_and, and_self, ite_true, ite_false, ↓reduceIte, Nat.add_zero, if_true, if_false, b2i_t, b2i_f, o2i_s, o2i_n]
    exact h9
  · simp only [rI_uI, rI_uJ, rI_uR, rI_wI, rI_wJ, rJ_uJ, rJ_uI, rJ_uR, rJ_wI, rJ_wJ, rR_uR, rR_uI, rR_uJ, rR_wI, rR_wJ, qI_wI, qI_wJ, qI_uI, qI_uJ, qI_uR, qJ_wJ, qJ_wI, qJ_uI, qJ_uJ, qJ_uR, Option.bind_some, zcV_s, zcI_s, zcL_s, zrI, zrV, zrL, nI_mul8, nI_mul16, nI_mul200, nI_1, eq_self, Nat.reduceEqDiff, and_true, true_and, and_false, false_and, and_self, ite_true, ite_false, ↓reduceIte, Nat.add_zero, if_true, if_false, b2i_t, b2i_f, o2i_s, o2i_n]
    exact h10
  · simp only [rI_uI, rI_uJ, rI_uR, rI_wI, rI_wJ, rJ_uJ, rJ_uI, rJ_uR, rJ_wI, rJ_wJ, rR_uR, rR_uI, rR_uJ, rR_wI, rR_wJ, qI_wI, qI_wJ, qI_uI, qI_uJ, qI_uR, qJ_wJ, qJ_wI, qJ_uI, qJ_uJ, qJ_uR, Option.bind_some, zcV_s, zcI_s, zcL_s, zrI, zrV, zrL, nI_mul8, nI_mul16, nI_mul200, nI_1, eq_self, Nat.reduceEqDiff, and_true, true_and, and_false, false_and, and_self, ite_true, ite_false, ↓reduceIte, Nat.add_zero, if_true, if_false, b2i_t, b2i_f, o2i_s, o2i_n]
    exact h11
  · simp only [rI_uI, rI_uJ, rI_uR, rI_wI, rI_wJ, rJ_uJ, rJ_uI, rJ_uR, rJ_wI, rJ_wJ, rR_uR, rR_uI, rR_uJ, rR_wI, rR_wJ, qI_wI, qI_wJ, qI_uI, qI_uJ, qI_uR, qJ_wJ, qJ_wI, qJ_uI, qJ_uJ, qJ_uR, Option.bind_some, zcV_s, zcI_s, zcL_s, zrI, zrV, zrL, nI_mul8, nI_mul16, nI_mul200, nI_1, eq_self, Nat.reduceEqDiff, and_true, true_and, and_false, false_and, and_self, ite_true, ite_false, ↓reduceIte, Nat.add_zero, if_true, if_false, b2i_t, b2i_f, o2i_s, o2i_n]
    exact if_neg (by omega)
set_option maxHeartbeats 2000000 in
theorem fS_passNext_end (o : o3K e c 0) (h : cSo t c log fin stand M pos due) (hd : dueN stand pos due = false) (hl : ¬ stand < log.length) : fS_passNext (pv e t) n (pL e 3 c 0) = some (.inl none, pv e t, n) := by
  have hb := fS_barrierIsNext_eq (n := n) o h
  rw [hd] at hb
  obtain ⟨h1, h2, h3, h4, h5, h6, h7, h8, h9, h10, h11, h12, h13, h14, h15⟩ := h
  have q2 : log.length ≤ stand := by omega
  unfold fS_passNext
  simp (disch := first | assumption | omega | exact b2i_01 _ | exact Or.inl rfl | exact Or.inr rfl) only [b3 o, bc3 o, f3_0 o, p3_0 o, f3_1 o, p3_1 o, f3_2 o, p3_2 o, f3_3 o, p3_3 o, f3_4 o, f3_5 o, f3_6 o, f3_7 o, f3_8 o, p3_8 o, f3_9 o, p3_9 o, f3_10 o, p3_10 o, f3_11 o, p3_11 o, f3_12 o, p3_12 o, fc3_0 o, pc3_0 o, fc3_1 o, pc3_1 o, fc3_2 o, pc3_2 o, fc3_3 o, pc3_3 o, g3_1 o, a3_1 o, s3_1 o, g3_2 o, a3_2 o, s3_2 o, g3_3 o, a3_3 o, s3_3 o, g3_4 o, z3_4 o, a3_4 o, s3_4 o, rI_uI, rI_uJ, rI_uR, rI_wI, rI_wJ, rJ_uJ, rJ_uI, rJ_uR, rJ_wI, rJ_wJ, rR_uR, rR_uI, rR_uJ, rR_wI, rR_wJ, qI_wI, qI_wJ, qI_uI, qI_uJ, qI_uR, qJ_wJ, qJ_wI, qJ_uI, qJ_uJ, qJ_uR, Option.bind_some, zcV_s, zcI_s, zcL_s, zrI, zrV, zrL, nI_mul8, nI_mul16, nI_mul200, nI_1, eq_self, Nat.reduceEqDiff, and_true, true_and, and_false, false_and, and_self, ite_true, ite_false, ↓reduceIte, Nat.add_zero, if_true, if_false, b2i_t, b2i_f, o2i_s, o2i_n, zdI_s, zdV_s, zdL_s, zcR_s, zcV_x, zcI_x, zcL_x, zcR_x, zrR_s, zth_s, nI_leI, nI_ltI, nI_eq, nI_eq0, nI_eqm1, b2i_eq0, hb, h2, h5, q2]
set_option maxHeartbeats 2000000 in
theorem fS_passNext_bar (o : o3K e c 0) {d : Nat} {r : List Nat} (h : cSo t c log fin stand M pos (d :: r)) (hd : pos d = stand) : ∃ t', fS_passNext (pv e t) n (pL e 3 c 0) = some (.inl none, pv e t', n) ∧ cSo t' c log fin stand M pos ((d :: r).filter fun z => !(z == d)) ∧ Fr (PO 3 c) t t' ∧ (∀ f, f ≤ 3 → qI t' 3 c f = qI t 3 c f) := by
  have hb := fS_barrierIsNext_eq (n := n) o h
  rw [show dueN stand pos (d :: r) = true from beq_iff_eq.mpr hd] at hb
  have hdl : d < 40 := by have := h.2.2.2.2.2.2.2.2.2.2.2.2.2.1 d List.mem_cons_self; have := h.2.2.2.2.2.2.2.2.2.2.2.2.1; omega
  obtain ⟨t', h1, h2, h3⟩ := fS_dropBarrier_eq (n := n) o h (m := d) (by omega)
  have e1 := hL0 h.2.2.2.2.2.2.2.2.2.1
  unfold fS_passNext
  simp (disch := first | assumption | omega | exact b2i_01 _ | exact Or.inl rfl | exact Or.inr rfl) only [b3 o, bc3 o, f3_0 o, p3_0 o, f3_1 o, p3_1 o, f3_2 o, p3_2 o, f3_3 o, p3_3 o, f3_4 o, f3_5 o, f3_6 o, f3_7 o, f3_8 o, p3_8 o, f3_9 o, p3_9 o, f3_10 o, p3_10 o, f3_11 o, p3_11 o, f3_12 o, p3_12 o, fc3_0 o, pc3_0 o, fc3_1 o, pc3_1 o, fc3_2 o, pc3_2 o, fc3_3 o, pc3_3 o, g3_1 o, a3_1 o, s3_1 o, g3_2 o, a3_2 o, s3_2 o, g3_3 o, a3_3 o, s3_3 o, g3_4 o, z3_4 o, a3_4 o, s3_4 o, rI_uI, rI_uJ, rI_uR, rI_wI, rI_wJ, rJ_uJ, rJ_uI, rJ_uR, rJ_wI, rJ_wJ, rR_uR, rR_uI, rR_uJ, rR_wI, rR_wJ, qI_wI, qI_wJ, qI_uI, qI_uJ, qI_uR, qJ_wJ, qJ_wI, qJ_uI, qJ_uJ, qJ_uR, Option.bind_some, zcV_s, zcI_s, zcL_s, zrI, zrV, zrL, nI_mul8, nI_mul16, nI_mul200, nI_1, eq_self, Nat.reduceEqDiff, and_true, true_and, and_false, false_and, and_self, ite_true, ite_false, ↓reduceIte, Nat.add_zero, if_true, if_false, b2i_t, b2i_f, o2i_s, o2i_n, zdI_s, zdV_s, zdL_s, zcR_s, zcV_x, zcI_x, zcL_x, zcR_x, zrR_s, zth_s, nI_leI, nI_ltI, nI_eq, nI_eq0, nI_eqm1, b2i_eq0, hb, i10, e1, h1]
  exact ⟨t', rfl, h2, h3⟩
end PO
