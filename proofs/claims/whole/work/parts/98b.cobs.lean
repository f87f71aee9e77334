/-! the class's calls that only read -/
/-- the class answers or throws, and goes to s' -/
def CO (F : Option zR) (e : pE) (t : pS) (n : Nat) (out : Option Value ⊕ String) (s' : zSt) : Prop := ∃ t', F = some (out, pv e t', n) ∧ Cls e t' s' ∧ Fr PC t t'
theorem bad_lt {x : Int32} {N : Nat} (h : bad x N) (q : ¬ x < 0) : ¬ x < nI N := fun z => by
  rcases h with h | h
  · exact q h
  · exact absurd h (Int32.not_le.mpr z)
section PO
variable {e : pE} {t t' : pS} {s : zSt} {n : Nat} {Mf : Nat → Nat} {due : Nat → List Nat}
theorem fB_taskAt_b (g : ClsG e t s Mf due) (w : Wf s) {x : Int32} (hx : bad x (s_N s)) : fB_taskAt (pv e t) n (pL e 0 0 0) x = some (.inr "java/lang/IndexOutOfBoundsException", pv e t, n) := by
  have o0 := g.o0
  have hN : s_N s < 2 ^ 31 := by have := w.N8; omega
  unfold fB_taskAt
  by_cases q : x < 0
  · rw [if_pos q]; rfl
  · rw [if_neg q, f0_0 o0, Option.bind_some, a0_1 o0, Option.bind_some, if_neg (bad_lt hx q)]; rfl
theorem fB_taskAt_g (g : ClsG e t s Mf due) (w : Wf s) {x : Nat} (hx : x < s_N s) : fB_taskAt (pv e t) n (pL e 0 0 0) (nI x) = some (.inl (some (.ref (pL e 2 x 0))), pv e t, n) := by
  have o0 := g.o0
  have hN8 := w.N8
  have hN : s_N s < 2 ^ 31 := by omega
  have q0 : ¬ nI x < 0 := nI_nn (by omega)
  have r1 := g.r1 hx
  unfold fB_taskAt
  simp (disch := first | assumption | omega | exact b2i_01 _ | exact Or.inl rfl | exact Or.inr rfl) only [b0 o0, f0_0 o0, f0_1 o0, f0_2 o0, f0_3 o0, f0_4 o0, f0_5 o0, f0_6 o0, p0_6 o0, f0_7 o0, p0_7 o0, f0_8 o0, p0_8 o0, f0_9 o0, p0_9 o0, a0_1 o0, g0_2 o0, a0_2 o0, g0_3 o0, a0_3 o0, a0_4 o0, a0_5 o0, g0_1 o0 hN, g0_4 o0 hN, s0_4 o0 hN, g0_5 o0 hN, s0_5 o0 hN, rI_uI, rI_uJ, rI_uR, rI_wI, rI_wJ, rJ_uJ, rJ_uI, rJ_uR, rJ_wI, rJ_wJ, rR_uR, rR_uI, rR_uJ, rR_wI, rR_wJ, qI_wI, qI_wJ, qI_uI, qI_uJ, qI_uR, qJ_wJ, qJ_wI, qJ_uI, qJ_uJ, qJ_uR, Option.bind_some, zcV_s, zcI_s, zcL_s, zrI, zrV, zrL, nI_mul8, nI_mul16, nI_mul200, nI_1, eq_self, Nat.reduceEqDiff, and_true, true_and, and_false, false_and, and_self, ite_true, ite_false, ↓reduceIte, Nat.add_zero, if_true, if_false, b2i_t, b2i_f, o2i_s, o2i_n, zdI_s, zdV_s, zdL_s, zcR_s, zcV_x, zcI_x, zcL_x, zcR_x, zrR_s, zth_s, nI_leI, nI_ltI, nI_eq, nI_eq0, nI_eqm1, b2i_eq0, q0, hx, r1]
theorem fB_channelAt_b (g : ClsG e t s Mf due) {x : Int32} (hx : bad x (s_C s)) : fB_channelAt (pv e t) n (pL e 0 0 0) x = some (.inr "java/lang/IndexOutOfBoundsException", pv e t, n) := by
  have o0 := g.o0
  unfold fB_channelAt
  by_cases q : x < 0
  · rw [if_pos q]; rfl
  · rw [if_neg q, f0_6 o0, Option.bind_some, g.B.1, if_neg (bad_lt hx q)]; rfl
theorem fB_channelAt_g (g : ClsG e t s Mf due) (w : Wf s) {c : Nat} (hc : c < s_C s) : fB_channelAt (pv e t) n (pL e 0 0 0) (nI c) = some (.inl (some (.ref (pL e (chK (s_fr s) c) c 0))), pv e t, n) := by
  have hN1 := w.N1; have hN8 := w.N8; have hC := w.C; have hM := w.M; have hA := w.ackn
  have o0 := g.o0
  have hN : s_N s < 2 ^ 31 := by omega
  have q0 : ¬ nI c < 0 := nI_nn (by omega)
  have r2 := g.r2 hc
  have h6 := g.B.1
  unfold fB_channelAt
  simp (disch := first | assumption | omega | exact b2i_01 _ | exact Or.inl rfl | exact Or.inr rfl) only [b0 o0, f0_0 o0, f0_1 o0, f0_2 o0, f0_3 o0, f0_4 o0, f0_5 o0, f0_6 o0, p0_6 o0, f0_7 o0, p0_7 o0, f0_8 o0, p0_8 o0, f0_9 o0, p0_9 o0, a0_1 o0, g0_2 o0, a0_2 o0, g0_3 o0, a0_3 o0, a0_4 o0, a0_5 o0, g0_1 o0 hN, g0_4 o0 hN, s0_4 o0 hN, g0_5 o0 hN, s0_5 o0 hN, rI_uI, rI_uJ, rI_uR, rI_wI, rI_wJ, rJ_uJ, rJ_uI, rJ_uR, rJ_wI, rJ_wJ, rR_uR, rR_uI, rR_uJ, rR_wI, rR_wJ, qI_wI, qI_wJ, qI_uI, qI_uJ, qI_uR, qJ_wJ, qJ_wI, qJ_uI, qJ_uJ, qJ_uR, Option.bind_some, zcV_s, zcI_s, zcL_s, zrI, zrV, zrL, nI_mul8, nI_mul16, nI_mul200, nI_1, eq_self, Nat.reduceEqDiff, and_true, true_and, and_false, false_and, and_self, ite_true, ite_false, ↓reduceIte, Nat.add_zero, if_true, if_false, b2i_t, b2i_f, o2i_s, o2i_n, zdI_s, zdV_s, zdL_s, zcR_s, zcV_x, zcI_x, zcL_x, zcR_x, zrR_s, zth_s, nI_leI, nI_ltI, nI_eq, nI_eq0, nI_eqm1, b2i_eq0, q0, hc, r2, h6]
theorem fB_markAt_b (g : ClsG e t s Mf due) {x : Int32} (hx : bad x (s_M s)) : fB_markAt (pv e t) n (pL e 0 0 0) x = some (.inr "java/lang/IndexOutOfBoundsException", pv e t, n) := by
  have o0 := g.o0
  unfold fB_markAt
  by_cases q : x < 0
  · rw [if_pos q]; rfl
  · rw [if_neg q, f0_7 o0, Option.bind_some, g.B.2.1, if_neg (bad_lt hx q)]; rfl
theorem zinst_ch (E : cE e (s_N s) (s_C s) (s_fr s) (s_M s)) {c : Nat} (hc : c < s_C s) (k : Nat) : zinst (pv e t) (some (pL e (chK (s_fr s) c) c 0)) [1, 2] k = some (if (if s_fr s c = none then 1 else 2) = k then 1 else 0) := by
  unfold zinst
  cases hf : s_fr s c with
  | none => rw [chK_n hf, bc3 (E.2.2.2.1 c hc hf)]; rfl
  | some j => rw [chK_s hf, bc4 (E.2.2.2.2.1 c j hc hf)]; rfl
theorem fB_begunMarkAt_b (g : ClsG e t s Mf due) {x : Int32} (hx : bad x (s_M s)) : fB_begunMarkAt (pv e t) n (pL e 0 0 0) x = some (.inr "java/lang/IndexOutOfBoundsException", pv e t, n) := by
  unfold fB_begunMarkAt
  rw [b0 g.o0, Option.bind_some, fB_markAt_b g hx]
  rfl
theorem fB_begunMarkAt_n (g : ClsG e t s Mf due) (w : Wf s) {m : Nat} (hm : m < s_M s) (h0 : s_cond s m ≠ 0) : fB_begunMarkAt (pv e t) n (pL e 0 0 0) (nI m) = some (.inr "java/lang/IllegalStateException", pv e t, n) := by
  have hc := w.cond m
  have m8 := (g.M m hm).2.2.2.2.2.2.2.2
  unfold fB_begunMarkAt
  rw [b0 g.o0, Option.bind_some, fB_markAt_g g w hm, zcR_s, f5_8 (g.o5 hm), Option.bind_some, m8, if_neg (by rw [nI_eq0 (by omega)]; exact h0)]
  rfl
theorem fB_begunMarkAt_g (g : ClsG e t s Mf due) (w : Wf s) {m : Nat} (hm : m < s_M s) (h0 : s_cond s m = 0) : fB_begunMarkAt (pv e t) n (pL e 0 0 0) (nI m) = some (.inl (some (.ref (pL e 5 m 0))), pv e t, n) := by
  have m8 := (g.M m hm).2.2.2.2.2.2.2.2
  unfold fB_begunMarkAt
  rw [b0 g.o0, Option.bind_some, fB_markAt_g g w hm, zcR_s, f5_8 (g.o5 hm), Option.bind_some, m8, h0, nI0, if_pos rfl]
  rfl
theorem fB_completeMarkAt_b (g : ClsG e t s Mf due) {x : Int32} (hx : bad x (s_M s)) : fB_completeMarkAt (pv e t) n (pL e 0 0 0) x = some (.inr "java/lang/IndexOutOfBoundsException", pv e t, n) := by
  unfold fB_completeMarkAt
  rw [b0 g.o0, Option.bind_some, fB_markAt_b g hx]
  rfl
theorem fB_completeMarkAt_n (g : ClsG e t s Mf due) (w : Wf s) {m : Nat} (hm : m < s_M s) (h0 : s_cond s m ≠ 1) : fB_completeMarkAt (pv e t) n (pL e 0 0 0) (nI m) = some (.inr "java/lang/IllegalStateException", pv e t, n) := by
  have hc := w.cond m
  have m8 := (g.M m hm).2.2.2.2.2.2.2.2
  unfold fB_completeMarkAt
  rw [b0 g.o0, Option.bind_some, fB_markAt_g g w hm, zcR_s, f5_8 (g.o5 hm), Option.bind_some, m8, if_neg (by rw [show (1 : Int32) = nI 1 from rfl, nI_eq (by omega) (by decide)]; exact h0)]
  rfl
theorem fB_completeMarkAt_g (g : ClsG e t s Mf due) (w : Wf s) {m : Nat} (hm : m < s_M s) (h0 : s_cond s m = 1) : fB_completeMarkAt (pv e t) n (pL e 0 0 0) (nI m) = some (.inl (some (.ref (pL e 5 m 0))), pv e t, n) := by
  have m8 := (g.M m hm).2.2.2.2.2.2.2.2
  unfold fB_completeMarkAt
  rw [b0 g.o0, Option.bind_some, fB_markAt_g g w hm, zcR_s, f5_8 (g.o5 hm), Option.bind_some, m8, h0, nI1, if_pos rfl]
  rfl
theorem fB_sourceAt_b (g : ClsG e t s Mf due) {x : Int32} (hx : bad x (s_C s)) : fB_sourceAt (pv e t) n (pL e 0 0 0) x = some (.inr "java/lang/IndexOutOfBoundsException", pv e t, n) := by
  unfold fB_sourceAt
  rw [b0 g.o0, Option.bind_some, fB_channelAt_b g hx]
  rfl
theorem fB_sourceAt_l (g : ClsG e t s Mf due) (w : Wf s) {c k : Nat} (hc : c < s_C s) (hf : s_fr s c = some k) : fB_sourceAt (pv e t) n (pL e 0 0 0) (nI c) = some (.inr "java/lang/IllegalStateException", pv e t, n) := by
  unfold fB_sourceAt
  rw [b0 g.o0, Option.bind_some, fB_channelAt_g g w hc, zcR_s, zinst_ch g.E hc, Option.bind_some, hf]
  rfl
theorem fB_sourceAt_s (g : ClsG e t s Mf due) (w : Wf s) {c : Nat} (hc : c < s_C s) (hf : s_fr s c = none) : fB_sourceAt (pv e t) n (pL e 0 0 0) (nI c) = some (.inl (some (.ref (pL e 3 c 0))), pv e t, n) := by
  unfold fB_sourceAt
  rw [b0 g.o0, Option.bind_some, fB_channelAt_g g w hc, zcR_s, zinst_ch g.E hc, Option.bind_some, hf, chK_n hf, b3 (g.o3 hc hf)]
  rfl
theorem fB_state_b (g : Cls e t s) (w : Wf s) {x : Int32} (hx : bad x (s_N s)) : CO (fB_state (pv e t) n (pL e 0 0 0) x) e t n (.inr "java/lang/IndexOutOfBoundsException") s := by
  refine ⟨t, ?_, g, Fr.refl _ _⟩
  have o0 := ClsG.o0 g
  unfold fB_state
  rw [b0 o0, Option.bind_some, fB_taskAt_b g w hx]
  rfl
theorem fB_state_g (g : Cls e t s) (w : Wf s) {j : Nat} (hj : j < s_N s) : CO (fB_state (pv e t) n (pL e 0 0 0) (nI j)) e t n (.inl (some (.long (s_sum s j)))) s := by
  refine ⟨t, ?_, g, Fr.refl _ _⟩
  have o0 := ClsG.o0 g
  unfold fB_state
  rw [b0 o0, Option.bind_some, fB_taskAt_g g w hj, zcR_s, f2_6 (ClsG.o2 g hj), Option.bind_some, (ClsG.T g j hj).2.2.2.2.1]
  rfl
theorem fB_task_b (g : Cls e t s) (w : Wf s) {x : Int32} (y : Int32) (hx : bad x (s_N s)) : CO (fB_task (pv e t) n (pL e 0 0 0) x y) e t n (.inr "java/lang/IndexOutOfBoundsException") s := by
  refine ⟨t, ?_, g, Fr.refl _ _⟩
  have o0 := ClsG.o0 g
  unfold fB_task
  rw [b0 o0, Option.bind_some, fB_taskAt_b g w hx]
  rfl
theorem fB_task_0 (g : Cls e t s) (w : Wf s) {j : Nat} (hj : j < s_N s) : CO (fB_task (pv e t) n (pL e 0 0 0) (nI j) 0) e t n (.inl (some (.int (s_rows s j)))) s := by
  refine ⟨t, ?_, g, Fr.refl _ _⟩
  have o0 := ClsG.o0 g
  unfold fB_task
  rw [b0 o0, Option.bind_some, fB_taskAt_g g w hj, zcR_s, if_pos rfl, f2_7 (ClsG.o2 g hj), Option.bind_some, (ClsG.T g j hj).2.2.2.2.2.1]
  rfl
theorem fB_task_1 (g : Cls e t s) (w : Wf s) {j : Nat} (hj : j < s_N s) : CO (fB_task (pv e t) n (pL e 0 0 0) (nI j) 1) e t n (.inl (some (.int (b2i (s_ended s j))))) s := by
  refine ⟨t, ?_, g, Fr.refl _ _⟩
  have o0 := ClsG.o0 g
  unfold fB_task
  rw [b0 o0, Option.bind_some, fB_taskAt_g g w hj, zcR_s, if_neg (by decide), if_pos rfl, f2_8 (ClsG.o2 g hj), Option.bind_some, (ClsG.T g j hj).2.2.2.2.2.2]
  cases s_ended s j <;> rfl
theorem fB_task_2 (g : Cls e t s) (w : Wf s) {j : Nat} {y : Int32} (hj : j < s_N s) (hy : y < 0 ∨ 1 < y) : CO (fB_task (pv e t) n (pL e 0 0 0) (nI j) y) e t n (.inr "java/lang/IllegalArgumentException") s := by
  refine ⟨t, ?_, g, Fr.refl _ _⟩
  have o0 := ClsG.o0 g
  have y0 : ¬ y = 0 := fun z => by rw [z] at hy; exact absurd hy (by decide)
  have y1 : ¬ y = 1 := fun z => by rw [z] at hy; exact absurd hy (by decide)
  unfold fB_task
  rw [b0 o0, Option.bind_some, fB_taskAt_g g w hj, zcR_s, if_neg y0, if_neg y1]
  rfl
theorem fB_kept_b1 (g : Cls e t s) (w : Wf s) {x : Int32} (y : Int32) (hx : bad x (s_M s)) : CO (fB_kept (pv e t) n (pL e 0 0 0) x y) e t n (.inr "java/lang/IndexOutOfBoundsException") s := by
  refine ⟨t, ?_, g, Fr.refl _ _⟩
  have o0 := ClsG.o0 g
  unfold fB_kept fB_markKeptBy
  rw [b0 o0, Option.bind_some, b0 o0, Option.bind_some, fB_markAt_b g hx]
  rfl
theorem fB_kept_b2 (g : Cls e t s) (w : Wf s) {i : Nat} {y : Int32} (hi : i < s_M s) (hy : bad y (s_N s)) : CO (fB_kept (pv e t) n (pL e 0 0 0) (nI i) y) e t n (.inr "java/lang/IndexOutOfBoundsException") s := by
  refine ⟨t, ?_, g, Fr.refl _ _⟩
  have o0 := ClsG.o0 g
  unfold fB_kept fB_markKeptBy
  rw [b0 o0, Option.bind_some, b0 o0, Option.bind_some, fB_markAt_g g w hi, zcR_s, b0 o0, Option.bind_some, fB_taskAt_b g w hy]
  rfl
theorem fB_kept_n (g : Cls e t s) (w : Wf s) {i j : Nat} (hi : i < s_M s) (hj : j < s_N s) (hk : s_kept s i j = false) : CO (fB_kept (pv e t) n (pL e 0 0 0) (nI i) (nI j)) e t n (.inr "java/lang/IllegalStateException") s := by
  refine ⟨t, ?_, g, Fr.refl _ _⟩
  have o0 := ClsG.o0 g
  have hN : s_N s < 2 ^ 31 := by have := w.N8; omega
  have k1 : rI t 5 i 1 j = b2i (s_kept s i j) := (ClsG.M g i hi).2.1 j hj
  unfold fB_kept fB_markKeptBy
  rw [b0 o0, Option.bind_some, b0 o0, Option.bind_some, fB_markAt_g g w hi, zcR_s, b0 o0, Option.bind_some, fB_taskAt_g g w hj, zcR_s, f5_1 (ClsG.o5 g hi), Option.bind_some, g5_1 (ClsG.o5 g hi) hN hj, Option.bind_some, k1, hk]
  rfl
theorem fB_kept_g (g : Cls e t s) (w : Wf s) {i j : Nat} (hi : i < s_M s) (hj : j < s_N s) (hk : s_kept s i j = true) : CO (fB_kept (pv e t) n (pL e 0 0 0) (nI i) (nI j)) e t n (.inl (some (.long (s_kSum s i j)))) s := by
  refine ⟨t, ?_, g, Fr.refl _ _⟩
  have o0 := ClsG.o0 g
  have hN : s_N s < 2 ^ 31 := by have := w.N8; omega
  have k1 : rI t 5 i 1 j = b2i (s_kept s i j) := (ClsG.M g i hi).2.1 j hj
  have k2 := (ClsG.M g i hi).2.2.2.2.1 j hj
  unfold fB_kept fB_markKeptBy
  rw [b0 o0, Option.bind_some, b0 o0, Option.bind_some, fB_markAt_g g w hi, zcR_s, b0 o0, Option.bind_some, fB_taskAt_g g w hj, zcR_s, f5_1 (ClsG.o5 g hi), Option.bind_some, g5_1 (ClsG.o5 g hi) hN hj, Option.bind_some, k1, hk, if_neg (by decide), zrR_s, zcR_s, f5_4 (ClsG.o5 g hi), Option.bind_some, g5_4 (ClsG.o5 g hi) hN hj, Option.bind_some, k2]
  rfl
theorem fB_keptRows_b1 (g : Cls e t s) (w : Wf s) {x : Int32} (y : Int32) (hx : bad x (s_M s)) : CO (fB_keptRows (pv e t) n (pL e 0 0 0) x y) e t n (.inr "java/lang/IndexOutOfBoundsException") s := by
  refine ⟨t, ?_, g, Fr.refl _ _⟩
  have o0 := ClsG.o0 g
  unfold fB_keptRows fB_markKeptBy
  rw [b0 o0, Option.bind_some, b0 o0, Option.bind_some, fB_markAt_b g hx]
  rfl
theorem fB_keptRows_b2 (g : Cls e t s) (w : Wf s) {i : Nat} {y : Int32} (hi : i < s_M s) (hy : bad y (s_N s)) : CO (fB_keptRows (pv e t) n (pL e 0 0 0) (nI i) y) e t n (.inr "java/lang/IndexOutOfBoundsException") s := by
  refine ⟨t, ?_, g, Fr.refl _ _⟩
  have o0 := ClsG.o0 g
  unfold fB_keptRows fB_markKeptBy
  rw [b0 o0, Option.bind_some, b0 o0, Option.bind_some, fB_markAt_g g w hi, zcR_s, b0 o0, Option.bind_some, fB_taskAt_b g w hy]
  rfl
theorem fB_keptRows_n (g : Cls e t s) (w : Wf s) {i j : Nat} (hi : i < s_M s) (hj : j < s_N s) (hk : s_kept s i j = false) : CO (fB_keptRows (pv e t) n (pL e 0 0 0) (nI i) (nI j)) e t n (.inr "java/lang/IllegalStateException") s := by
  refine ⟨t, ?_, g, Fr.refl _ _⟩
  have o0 := ClsG.o0 g
  have hN : s_N s < 2 ^ 31 := by have := w.N8; omega
  have k1 : rI t 5 i 1 j = b2i (s_kept s i j) := (ClsG.M g i hi).2.1 j hj
  unfold fB_keptRows fB_markKeptBy
  rw [b0 o0, Option.bind_some, b0 o0, Option.bind_some, fB_markAt_g g w hi, zcR_s, b0 o0, Option.bind_some, fB_taskAt_g g w hj, zcR_s, f5_1 (ClsG.o5 g hi), Option.bind_some, g5_1 (ClsG.o5 g hi) hN hj, Option.bind_some, k1, hk]
  rfl
theorem fB_keptRows_g (g : Cls e t s) (w : Wf s) {i j : Nat} (hi : i < s_M s) (hj : j < s_N s) (hk : s_kept s i j = true) : CO (fB_keptRows (pv e t) n (pL e 0 0 0) (nI i) (nI j)) e t n (.inl (some (.int (s_kRows s i j)))) s := by
  refine ⟨t, ?_, g, Fr.refl _ _⟩
  have o0 := ClsG.o0 g
  have hN : s_N s < 2 ^ 31 := by have := w.N8; omega
  have k1 : rI t 5 i 1 j = b2i (s_kept s i j) := (ClsG.M g i hi).2.1 j hj
  have k2 := (ClsG.M g i hi).2.2.2.2.2.1 j hj
  unfold fB_keptRows fB_markKeptBy
  rw [b0 o0, Option.bind_some, b0 o0, Option.bind_some, fB_markAt_g g w hi, zcR_s, b0 o0, Option.bind_some, fB_taskAt_g g w hj, zcR_s, f5_1 (ClsG.o5 g hi), Option.bind_some, g5_1 (ClsG.o5 g hi) hN hj, Option.bind_some, k1, hk, if_neg (by decide), zrR_s, zcR_s, f5_5 (ClsG.o5 g hi), Option.bind_some, g5_5 (ClsG.o5 g hi) hN hj, Option.bind_some, k2]
  rfl
theorem fB_position_b1 (g : Cls e t s) (w : Wf s) {x : Int32} (y : Int32) (hx : bad x (s_M s)) : CO (fB_position (pv e t) n (pL e 0 0 0) x y) e t n (.inr "java/lang/IndexOutOfBoundsException") s := by
  refine ⟨t, ?_, g, Fr.refl _ _⟩
  have o0 := ClsG.o0 g
  unfold fB_position
  rw [b0 o0, Option.bind_some, fB_markAt_b g hx]
  rfl
theorem fB_position_b2 (g : Cls e t s) (w : Wf s) {i : Nat} {y : Int32} (hi : i < s_M s) (hy : bad y (s_C s)) : CO (fB_position (pv e t) n (pL e 0 0 0) (nI i) y) e t n (.inr "java/lang/IndexOutOfBoundsException") s := by
  refine ⟨t, ?_, g, Fr.refl _ _⟩
  have o0 := ClsG.o0 g
  unfold fB_position
  rw [b0 o0, Option.bind_some, fB_markAt_g g w hi, zcR_s, b0 o0, Option.bind_some, fB_channelAt_b g hy]
  rfl
theorem fB_position_n (g : Cls e t s) (w : Wf s) {i c k : Nat} (hi : i < s_M s) (hc : c < s_C s) (hf : s_fr s c = some k) : CO (fB_position (pv e t) n (pL e 0 0 0) (nI i) (nI c)) e t n (.inr "java/lang/IndexOutOfBoundsException") s := by
  refine ⟨t, ?_, g, Fr.refl _ _⟩
  have o0 := ClsG.o0 g
  unfold fB_position
  rw [b0 o0, Option.bind_some, fB_markAt_g g w hi, zcR_s, b0 o0, Option.bind_some, fB_channelAt_g g w hc, zcR_s, zinst_ch (ClsG.E g) hc, Option.bind_some, hf]
  rfl
theorem fB_position_g (g : Cls e t s) (w : Wf s) {i c : Nat} (hi : i < s_M s) (hc : c < s_C s) (hf : s_fr s c = none) : CO (fB_position (pv e t) n (pL e 0 0 0) (nI i) (nI c)) e t n (.inl (some (.int (nI (s_pos s i c))))) s := by
  refine ⟨t, ?_, g, Fr.refl _ _⟩
  have o0 := ClsG.o0 g
  have hM := w.M
  have k2 : rI t 3 c 2 i = nI (s_pos s i c) := (ClsG.S g c hc hf).2.2.2.2.2.2.2.1 i hi
  unfold fB_position
  rw [b0 o0, Option.bind_some, fB_markAt_g g w hi, zcR_s, b0 o0, Option.bind_some, fB_channelAt_g g w hc, zcR_s, zinst_ch (ClsG.E g) hc, Option.bind_some, hf, if_neg (by decide), chK_n hf, b3 (ClsG.o3 g hc hf), Option.bind_some, f3_5 (ClsG.o3 g hc hf), Option.bind_some, g3_2 (ClsG.o3 g hc hf) (show i < 40 by omega), Option.bind_some, k2]
  rfl
theorem fB_condition_b (g : Cls e t s) (w : Wf s) {x : Int32} (hx : bad x (s_M s)) : CO (fB_condition (pv e t) n (pL e 0 0 0) x) e t n (.inr "java/lang/IndexOutOfBoundsException") s := by
  refine ⟨t, ?_, g, Fr.refl _ _⟩
  have o0 := ClsG.o0 g
  unfold fB_condition
  rw [b0 o0, Option.bind_some, fB_markAt_b g hx]
  rfl
theorem fB_condition_g (g : Cls e t s) (w : Wf s) {i : Nat} (hi : i < s_M s) : CO (fB_condition (pv e t) n (pL e 0 0 0) (nI i)) e t n (.inl (some (.int (nI (s_cond s i))))) s := by
  refine ⟨t, ?_, g, Fr.refl _ _⟩
  have o0 := ClsG.o0 g
  unfold fB_condition
  rw [b0 o0, Option.bind_some, fB_markAt_g g w hi, zcR_s, f5_8 (ClsG.o5 g hi), Option.bind_some, (ClsG.M g i hi).2.2.2.2.2.2.2.2]
  rfl
theorem fB_acknowledged_b (g : Cls e t s) (w : Wf s) {x : Int32} (hx : bad x (s_M s)) : CO (fB_acknowledged (pv e t) n (pL e 0 0 0) x) e t n (.inr "java/lang/IndexOutOfBoundsException") s := by
  refine ⟨t, ?_, g, Fr.refl _ _⟩
  have o0 := ClsG.o0 g
  unfold fB_acknowledged
  rw [b0 o0, Option.bind_some, fB_markAt_b g hx]
  rfl
theorem fB_acknowledged_g (g : Cls e t s) (w : Wf s) {i : Nat} (hi : i < s_M s) : CO (fB_acknowledged (pv e t) n (pL e 0 0 0) (nI i)) e t n (.inl (some (.int (nI (countS s i))))) s := by
  refine ⟨t, ?_, g, Fr.refl _ _⟩
  have o0 := ClsG.o0 g
  unfold fB_acknowledged
  rw [b0 o0, Option.bind_some, fB_markAt_g g w hi, zcR_s, f5_7 (ClsG.o5 g hi), Option.bind_some, (ClsG.M g i hi).2.2.2.2.2.2.2.1]
  rfl
theorem fB_held_b (g : Cls e t s) (w : Wf s) {x : Int32} (hx : bad x (s_C s)) : CO (fB_held (pv e t) n (pL e 0 0 0) x) e t n (.inr "java/lang/IndexOutOfBoundsException") s := by
  refine ⟨t, ?_, g, Fr.refl _ _⟩
  have o0 := ClsG.o0 g
  unfold fB_held
  rw [b0 o0, Option.bind_some, fB_channelAt_b g hx]
  rfl
theorem fB_held_g (g : Cls e t s) (w : Wf s) {c : Nat} (hc : c < s_C s) : CO (fB_held (pv e t) n (pL e 0 0 0) (nI c)) e t n (.inl (some (.int (o2i (s_held s c))))) s := by
  refine ⟨t, ?_, g, Fr.refl _ _⟩
  have o0 := ClsG.o0 g
  unfold fB_held
  rw [b0 o0, Option.bind_some, fB_channelAt_g g w hc, zcR_s, ClsG.fc2 g hc, Option.bind_some]
  rfl
theorem fB_waiting_b (g : Cls e t s) (w : Wf s) {x : Int32} (hx : bad x (s_C s)) : CO (fB_waiting (pv e t) n (pL e 0 0 0) x) e t n (.inr "java/lang/IndexOutOfBoundsException") s := by
  refine ⟨t, ?_, g, Fr.refl _ _⟩
  have o0 := ClsG.o0 g
  unfold fB_waiting
  rw [b0 o0, Option.bind_some, fB_channelAt_b g hx]
  rfl
theorem fB_waiting_s (g : Cls e t s) (w : Wf s) {c : Nat} (hc : c < s_C s) (hf : s_fr s c = none) : CO (fB_waiting (pv e t) n (pL e 0 0 0) (nI c)) e t n (.inl (some (.int (nI (s_log s c).length - nI (s_stand s c))))) s := by
  refine ⟨t, ?_, g, Fr.refl _ _⟩
  have o0 := ClsG.o0 g
  have hd := ch_d (α := zR) (t := t) (ClsG.E g) hc (fun a => fS_left (pv e t) n a) (fun a => fL_left (pv e t) n a)
  unfold fB_waiting
  rw [b0 o0, Option.bind_some, fB_channelAt_g g w hc, zcR_s, hd (fun a => zdI a _), if_pos hf, fS_left_eq (ClsG.o3 g hc hf) (ClsG.S g c hc hf)]
  rfl
theorem fB_waiting_l (g : Cls e t s) (w : Wf s) {c k : Nat} (hc : c < s_C s) (hf : s_fr s c = some k) : CO (fB_waiting (pv e t) n (pL e 0 0 0) (nI c)) e t n (.inl (some (.int (nI (s_q s c).length)))) s := by
  refine ⟨t, ?_, g, Fr.refl _ _⟩
  have o0 := ClsG.o0 g
  have hd := ch_d (α := zR) (t := t) (ClsG.E g) hc (fun a => fS_left (pv e t) n a) (fun a => fL_left (pv e t) n a)
  unfold fB_waiting
  rw [b0 o0, Option.bind_some, fB_channelAt_g g w hc, zcR_s, hd (fun a => zdI a _), if_neg (by rw [hf]; intro q; cases q), fL_left_eq (ClsG.o4 g hc hf) (ClsG.L g c k hc hf)]
  rfl
theorem fB_kind_b (g : Cls e t s) (w : Wf s) {x : Int32} (y : Int32) (hx : bad x (s_C s)) : CO (fB_kind (pv e t) n (pL e 0 0 0) x y) e t n (.inr "java/lang/IndexOutOfBoundsException") s := by
  refine ⟨t, ?_, g, Fr.refl _ _⟩
  have o0 := ClsG.o0 g
  unfold fB_kind fB_lineWith
  rw [b0 o0, Option.bind_some, b0 o0, Option.bind_some, fB_channelAt_b g hx]
  rfl
theorem fB_kind_s (g : Cls e t s) (w : Wf s) {c : Nat} (y : Int32) (hc : c < s_C s) (hf : s_fr s c = none) : CO (fB_kind (pv e t) n (pL e 0 0 0) (nI c) y) e t n (.inr "java/lang/IndexOutOfBoundsException") s := by
  refine ⟨t, ?_, g, Fr.refl _ _⟩
  have o0 := ClsG.o0 g
  unfold fB_kind fB_lineWith
  rw [b0 o0, Option.bind_some, b0 o0, Option.bind_some, fB_channelAt_g g w hc, zcR_s, zinst_ch (ClsG.E g) hc, Option.bind_some, hf]
  rfl
theorem fB_kind_l (g : Cls e t s) (w : Wf s) {c k : Nat} {y : Int32} (hc : c < s_C s) (hf : s_fr s c = some k) (hy : bad y (s_q s c).length) : CO (fB_kind (pv e t) n (pL e 0 0 0) (nI c) y) e t n (.inr "java/lang/IndexOutOfBoundsException") s := by
  refine ⟨t, ?_, g, Fr.refl _ _⟩
  have o0 := ClsG.o0 g
  have o4 := ClsG.o4 g hc hf
  have h6 := (ClsG.L g c k hc hf).2.2.1
  unfold fB_kind fB_lineWith
  rw [b0 o0, Option.bind_some, b0 o0, Option.bind_some, fB_channelAt_g g w hc, zcR_s, zinst_ch (ClsG.E g) hc, Option.bind_some, hf, if_neg (by simp), chK_s hf, b4 o4, Option.bind_some]
  by_cases q : y < 0
  · rw [if_pos q]; rfl
  · rw [if_neg q, f4_6 o4, Option.bind_some, h6, if_pos (hy.resolve_left q)]; rfl
theorem fB_kind_g (g : Cls e t s) (w : Wf s) {c k j : Nat} {z : Nat × Int64} (hc : c < s_C s) (hf : s_fr s c = some k) (hz : (s_q s c)[j]? = some z) : CO (fB_kind (pv e t) n (pL e 0 0 0) (nI c) (nI j)) e t n (.inl (some (.int (nI z.1)))) s := by
  refine ⟨t, ?_, g, Fr.refl _ _⟩
  have o0 := ClsG.o0 g
  have o4 := ClsG.o4 g hc hf
  have h6 := (ClsG.L g c k hc hf).2.2.1
  have h9 := (ClsG.L g c k hc hf).2.2.2
  have kv := (ClsG.L g c k hc hf).1 j z hz
  rw [Nat.zero_add] at kv
  have hj : j < (s_q s c).length := (List.getElem?_eq_some_iff.mp hz).1
  unfold fB_kind fB_lineWith
  rw [b0 o0, Option.bind_some, b0 o0, Option.bind_some, fB_channelAt_g g w hc, zcR_s, zinst_ch (ClsG.E g) hc, Option.bind_some, hf, if_neg (by simp), chK_s hf, b4 o4, Option.bind_some, if_neg (nI_nn (by omega)), f4_6 o4, Option.bind_some, h6, if_neg (by rw [nI_leI (by omega) (by omega)]; omega), zrR_s, zcR_s, f4_4 o4, Option.bind_some, g4_1 o4 (by omega), Option.bind_some, kv]
  rfl
theorem fB_value_b (g : Cls e t s) (w : Wf s) {x : Int32} (y : Int32) (hx : bad x (s_C s)) : CO (fB_value (pv e t) n (pL e 0 0 0) x y) e t n (.inr "java/lang/IndexOutOfBoundsException") s := by
  refine ⟨t, ?_, g, Fr.refl _ _⟩
  have o0 := ClsG.o0 g
  unfold fB_value fB_lineWith
  rw [b0 o0, Option.bind_some, b0 o0, Option.bind_some, fB_channelAt_b g hx]
  rfl
theorem fB_value_s (g : Cls e t s) (w : Wf s) {c : Nat} (y : Int32) (hc : c < s_C s) (hf : s_fr s c = none) : CO (fB_value (pv e t) n (pL e 0 0 0) (nI c) y) e t n (.inr "java/lang/IndexOutOfBoundsException") s := by
  refine ⟨t, ?_, g, Fr.refl _ _⟩
  have o0 := ClsG.o0 g
  unfold fB_value fB_lineWith
  rw [b0 o0, Option.bind_some, b0 o0, Option.bind_some, fB_channelAt_g g w hc, zcR_s, zinst_ch (ClsG.E g) hc, Option.bind_some, hf]
  rfl
theorem fB_value_l (g : Cls e t s) (w : Wf s) {c k : Nat} {y : Int32} (hc : c < s_C s) (hf : s_fr s c = some k) (hy : bad y (s_q s c).length) : CO (fB_value (pv e t) n (pL e 0 0 0) (nI c) y) e t n (.inr "java/lang/IndexOutOfBoundsException") s := by
  refine ⟨t, ?_, g, Fr.refl _ _⟩
  have o0 := ClsG.o0 g
  have o4 := ClsG.o4 g hc hf
  have h6 := (ClsG.L g c k hc hf).2.2.1
  unfold fB_value fB_lineWith
  rw [b0 o0, Option.bind_some, b0 o0, Option.bind_some, fB_channelAt_g g w hc, zcR_s, zinst_ch (ClsG.E g) hc, Option.bind_some, hf, if_neg (by simp), chK_s hf, b4 o4, Option.bind_some]
  by_cases q : y < 0
  · rw [if_pos q]; rfl
  · rw [if_neg q, f4_6 o4, Option.bind_some, h6, if_pos (hy.resolve_left q)]; rfl
theorem fB_value_g (g : Cls e t s) (w : Wf s) {c k j : Nat} {z : Nat × Int64} (hc : c < s_C s) (hf : s_fr s c = some k) (hz : (s_q s c)[j]? = some z) : CO (fB_value (pv e t) n (pL e 0 0 0) (nI c) (nI j)) e t n (.inl (some (.long z.2))) s := by
  refine ⟨t, ?_, g, Fr.refl _ _⟩
  have o0 := ClsG.o0 g
  have o4 := ClsG.o4 g hc hf
  have h6 := (ClsG.L g c k hc hf).2.2.1
  have h9 := (ClsG.L g c k hc hf).2.2.2
  have kv := (ClsG.L g c k hc hf).2.1 j z hz
  rw [Nat.zero_add] at kv
  have hj : j < (s_q s c).length := (List.getElem?_eq_some_iff.mp hz).1
  unfold fB_value fB_lineWith
  rw [b0 o0, Option.bind_some, b0 o0, Option.bind_some, fB_channelAt_g g w hc, zcR_s, zinst_ch (ClsG.E g) hc, Option.bind_some, hf, if_neg (by simp), chK_s hf, b4 o4, Option.bind_some, if_neg (nI_nn (by omega)), f4_6 o4, Option.bind_some, h6, if_neg (by rw [nI_leI (by omega) (by omega)]; omega), zrR_s, zcR_s, f4_5 o4, Option.bind_some, g4_2 o4 (by omega), Option.bind_some, kv]
  rfl
end PO
