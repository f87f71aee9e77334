/-! the reference's play, mark -/
def plX (x : Int64) : Int64 := (6364136223846793005 : Int64) * x + (1442695040888963407 : Int64)
def plK (x : Int64) : Nat := (x.toUInt64 >>> 33).toNat
theorem plK_lt (x : Int64) : plK x < 2 ^ 31 := by
  unfold plK
  rw [UInt64.toNat_shiftRight]
  have h1 : x.toUInt64.toNat < 2 ^ 64 := x.toUInt64.toNat_lt
  have h2 : (33 : UInt64).toNat % 64 = 33 := by decide
  rw [h2, Nat.shiftRight_eq_div_pow]
  omega
theorem plK_eq (x : Int64) : (x.toUInt64 >>> ((33 : Int32).toInt64.toUInt64 &&& Int64.toUInt64 63)).toInt64 = lN (plK x) := by
  have h2 : ((33 : Int32).toInt64.toUInt64 &&& Int64.toUInt64 63) = 33 := by decide
  rw [h2]
  unfold lN plK
  exact congrArg UInt64.toInt64 (UInt64.ofNat_toNat (x := x.toUInt64 >>> 33)).symm
def stepS (s : zSt) (x : Int64) : Nat × zSt := if plK x % (s_N s + 1) = s_N s then keeperS s else goS s (plK x % (s_N s + 1))
def itS {σ : Type} (f : σ → σ) : Nat → σ → σ
  | 0, z => z
  | d + 1, z => itS f d (f z)
theorem itS_s {σ : Type} (f : σ → σ) (d : Nat) (z : σ) : itS f (d + 1) z = itS f d (f z) := rfl
theorem itS_0 {σ : Type} (f : σ → σ) (z : σ) : itS f 0 z = z := rfl
def plStep (z : zSt × Int64 × Nat) : zSt × Int64 × Nat := ((stepS z.1 (plX z.2.1)).2, plX z.2.1, z.2.2 + if (stepS z.1 (plX z.2.1)).1 = 1 then 1 else 0)
def playS (d : Nat) (s : zSt) (x : Int64) (a : Nat) : Nat × zSt := ((itS plStep d (s, x, a)).2.2, (itS plStep d (s, x, a)).1)
theorem plStep_eq (s : zSt) (x : Int64) (a : Nat) : plStep (s, x, a) = ((stepS s (plX x)).2, plX x, a + if (stepS s (plX x)).1 = 1 then 1 else 0) := by
  unfold plStep
  dsimp only
theorem playS_s (d : Nat) (s : zSt) (x : Int64) (a : Nat) : playS (d + 1) s x a = playS d (stepS s (plX x)).2 (plX x) (a + if (stepS s (plX x)).1 = 1 then 1 else 0) := by
  unfold playS
  rw [itS_s, plStep_eq]
theorem playS_0 (s : zSt) (x : Int64) (a : Nat) : playS 0 s x a = (a, s) := by
  unfold playS
  rw [itS_0]
theorem keeperS_le (s : zSt) : (keeperS s).1 ≤ 8 := by
  cases hk : s_acks s with
  | nil => unfold keeperS; rw [hk]; exact Nat.zero_le _
  | cons z r =>
    obtain ⟨m, x⟩ := z
    rw [keeperS_eq s hk]
    dsimp only
    repeat' split
    all_goals omega
theorem takeS_le (s : zSt) (x c : Nat) : (takeS s x c).1 ≤ 8 := by
  unfold takeS
  split
  · exact Nat.zero_le _
  · split
    · show 1 ≤ 8; omega
    · exact Nat.zero_le _
  · dsimp only
    split
    · split <;> omega
    · omega
  · show 3 ≤ 8; omega
theorem goS_le (s : zSt) (x : Nat) : (goS s x).1 ≤ 8 := by
  unfold goS
  split
  · exact Nat.zero_le _
  · split
    · split
      · split
        · split
          · show 5 ≤ 8; omega
          · show 4 ≤ 8; omega
        · exact Nat.zero_le _
      · show 6 ≤ 8; omega
    · split
      · exact Nat.zero_le _
      · exact takeS_le _ _ _
section PM
variable {e : pE} {t : pS} {s : zSt} {n : Nat}
theorem fR_play_95_eq (K : zV → Nat → Nat → Int32 → Int64 → Int32 → Int32 → Option zR) (V : zV) (a0 : Nat) (x3 : Int32) (x : Int64) (a c : Nat) {r : Nat} (hr : r ≤ 8) : fR_play_95 K V n a0 x3 x (nI a) (nI c) (nI r) = K V n a0 x3 x (nI (a + if r = 1 then 1 else 0)) (nI (c + 1)) := by
  have e1 : (nI r = (1 : Int32)) ↔ r = 1 := by rw [show (1 : Int32) = nI 1 from rfl]; exact nI_eq (by omega) (by decide)
  unfold fR_play_95 fR_play_110
  by_cases q : r = 1
  · rw [if_pos (e1.mpr q), if_pos q, nI_1, nI_1]
  · rw [if_neg (fun z => q (e1.mp z)), if_neg q, Int32.add_zero, nI_1]
    rfl
theorem play_who {N : Nat} (hN : N ≤ 8) (y : Int64) : ¬ (nI N + 1).toInt64 = 0 ∧ ((y.toUInt64 >>> ((33 : Int32).toInt64.toUInt64 &&& Int64.toUInt64 63)).toInt64 - (y.toUInt64 >>> ((33 : Int32).toInt64.toUInt64 &&& Int64.toUInt64 63)).toInt64 / (nI N + 1).toInt64 * (nI N + 1).toInt64).toInt32 = nI (plK y % (N + 1)) := by
  have hpl := plK_lt y
  rw [nI_1, nI_l (show N + 1 < 2 ^ 31 by omega), plK_eq]
  constructor
  · rw [show (0 : Int64) = lN 0 from rfl, pk_lEQ (by omega) (by decide)]; omega
  · rw [pk_lRem (by omega) (by omega) (by omega), lN_i]
theorem fR_play_39_u (f : Nat) (V : zV) (a0 : Nat) (x3 : Int32) (x : Int64) (x6 x7 : Int32) (y : Int64) (hy : (6364136223846793005 : Int64) * x + (1442695040888963407 : Int64) = y) : fR_play_39 (f + 1) V n a0 x3 x x6 x7 = if x3 ≤ x7 then zrI x6 V n else (zgI V (some a0) [6] 0).bind fun t1 => if (t1 + (1 : Int32)).toInt64 = 0 then none else (zgI V (some a0) [6] 0).bind fun t2 => if ((y.toUInt64 >>> ((33 : Int32).toInt64.toUInt64 &&& Int64.toUInt64 63)).toInt64 - (y.toUInt64 >>> ((33 : Int32).toInt64.toUInt64 &&& Int64.toUInt64 63)).toInt64 / (t1 + (1 : Int32)).toInt64 * (t1 + (1 : Int32)).toInt64).toInt32 = t2 then (z_obj V (some a0) [6]).bind fun o => zcI (fR_keeper V n o.1) fun t4 V n => fR_play_95 (fR_play_39 f) V n a0 x3 y x6 x7 t4 else (z_obj V (some a0) [6]).bind fun o => zcI (fR_go V n o.1 ((y.toUInt64 >>> ((33 : Int32).toInt64.toUInt64 &&& Int64.toUInt64 63)).toInt64 - (y.toUInt64 >>> ((33 : Int32).toInt64.toUInt64 &&& Int64.toUInt64 63)).toInt64 / (t1 + (1 : Int32)).toInt64 * (t1 + (1 : Int32)).toInt64).toInt32) fun t3 V n => fR_play_95 (fR_play_39 f) V n a0 x3 y x6 x7 t3 := by
  subst hy
  rfl
theorem play_k (h : pRf e) (M : Mod t s) (w : Wf s) {T a c f : Nat} (hT : T ≤ 2000) (q : ¬ T ≤ c) (hc : c ≤ 2000) {x y : Int64} (hy : (6364136223846793005 : Int64) * x + (1442695040888963407 : Int64) = y) (q2 : plK y % (s_N s + 1) = s_N s) {t1 : pS} {r : Nat} (hr : r ≤ 8) (h1 : fR_keeper (pv e t) n (pL e 6 0 0) = some (.inl (some (.int (nI r))), pv e t1, n)) : fR_play_39 (f + 1) (pv e t) n (pL e 6 0 0) (nI T) x (nI a) (nI c) = fR_play_39 f (pv e t1) n (pL e 6 0 0) (nI T) y (nI (a + if r = 1 then 1 else 0)) (nI (c + 1)) := by
  have hN8 := w.N8
  obtain ⟨e0, e1⟩ := play_who hN8 y
  rw [fR_play_39_u f _ _ _ _ _ _ y hy]
  generalize fR_play_39 f = R
  rw [if_neg (by rw [nI_leI (by omega) (by omega)]; exact q), rf_0 h, Option.bind_some, M.c_f0, if_neg e0, Option.bind_some, e1, q2, if_pos rfl, ro h, Option.bind_some, h1, zcI_s, fR_play_95_eq R _ _ _ _ a c hr]
theorem play_g (h : pRf e) (M : Mod t s) (w : Wf s) {T a c f k : Nat} (hT : T ≤ 2000) (q : ¬ T ≤ c) (hc : c ≤ 2000) {x y : Int64} (hy : (6364136223846793005 : Int64) * x + (1442695040888963407 : Int64) = y) (hk : plK y % (s_N s + 1) = k) (q2 : ¬ k = s_N s) {t1 : pS} {r : Nat} (hr : r ≤ 8) (h1 : fR_go (pv e t) n (pL e 6 0 0) (nI k) = some (.inl (some (.int (nI r))), pv e t1, n)) : fR_play_39 (f + 1) (pv e t) n (pL e 6 0 0) (nI T) x (nI a) (nI c) = fR_play_39 f (pv e t1) n (pL e 6 0 0) (nI T) y (nI (a + if r = 1 then 1 else 0)) (nI (c + 1)) := by
  have hN8 := w.N8
  have hkl := Nat.mod_lt (plK y) (show 0 < s_N s + 1 by omega)
  obtain ⟨e0, e1⟩ := play_who hN8 y
  rw [fR_play_39_u f _ _ _ _ _ _ y hy]
  generalize fR_play_39 f = R
  rw [if_neg (by rw [nI_leI (by omega) (by omega)]; exact q), rf_0 h, Option.bind_some, M.c_f0, if_neg e0, Option.bind_some, e1, hk, if_neg (by rw [nI_eq (by omega) (by omega)]; exact q2), ro h, Option.bind_some, h1, zcI_s, fR_play_95_eq R _ _ _ _ a c hr]
set_option maxHeartbeats 2000000 in
theorem fR_play_39_eq (h : pRf e) (P : zSt → Prop) (hP : ∀ s, P s → Gd s) (hk : ∀ s, P s → P (keeperS s).2) (hg : ∀ s x, P s → x < s_N s → P (goS s x).2) {T : Nat} (hT : T ≤ 2000) : ∀ (d c : Nat) (t : pS) (s : zSt) (x : Int64) (a : Nat) (f : Nat), c + d = T → d < f → Mod t s → P s → ∃ t', fR_play_39 f (pv e t) n (pL e 6 0 0) (nI T) x (nI a) (nI c) = some (.inl (some (.int (nI (playS d s x a).1))), pv e t', n) ∧ Mod t' (playS d s x a).2 ∧ Fr6 t t' := by
  intro d
  induction d with
  | zero =>
    intro c t s x a f hc hf M hp
    obtain ⟨f, rfl⟩ : ∃ g, f = g + 1 := ⟨f - 1, by omega⟩
    have q : T ≤ c := by omega
    rw [playS_0]
    rw [fR_play_39_u f _ _ _ _ _ _ _ rfl]
    generalize fR_play_39 f = R
    rw [if_pos (by rw [nI_leI (by omega) (by omega)]; exact q)]
    exact ⟨t, rfl, M, Fr6.refl _⟩
  | succ d ih =>
    intro c t s x a f hc hf M hp
    obtain ⟨f, rfl⟩ : ∃ g, f = g + 1 := ⟨f - 1, by omega⟩
    have q : ¬ T ≤ c := by omega
    have gd := hP s hp
    have w := gd.1
    have hN1 := w.N1
    obtain ⟨y, hy⟩ : ∃ y, plX x = y := ⟨_, rfl⟩
    have hy2 : (6364136223846793005 : Int64) * x + (1442695040888963407 : Int64) = y := hy
    rw [playS_s, hy]
    have hkl := Nat.mod_lt (plK y) (show 0 < s_N s + 1 by omega)
    by_cases q2 : plK y % (s_N s + 1) = s_N s
    · obtain ⟨t1, h1, M1, F1⟩ := fR_keeper_eq (n := n) h M w
      have e3 : stepS s y = keeperS s := if_pos q2
      rw [e3, play_k h M w hT q (by omega) hy2 q2 (keeperS_le s) h1]
      obtain ⟨t3, h3, M3, F3⟩ := ih (c + 1) t1 (keeperS s).2 y (a + if (keeperS s).1 = 1 then 1 else 0) f (by omega) (by omega) M1 (hk s hp)
      exact ⟨t3, h3, M3, F1.trans F3⟩
    · obtain ⟨k, hk2⟩ : ∃ k, plK y % (s_N s + 1) = k := ⟨_, rfl⟩
      rw [hk2] at q2 hkl
      have hx : k < s_N s := by omega
      have e3 : stepS s y = goS s k := by unfold stepS; rw [hk2, if_neg q2]
      obtain ⟨t2, h2, M2, F2⟩ := fR_go_eq (n := n) h M w hx (gd.2.2.1 _ hx) gd.2.1 (fun c hc => gd.2.2.2 c _ hc)
      rw [e3, play_g h M w hT q (by omega) hy2 hk2 q2 (goS_le s k) h2]
      obtain ⟨t3, h3, M3, F3⟩ := ih (c + 1) t2 (goS s k).2 y (a + if (goS s k).1 = 1 then 1 else 0) f (by omega) (by omega) M2 (hg s k hp hx)
      exact ⟨t3, h3, M3, F2.trans F3⟩
set_option maxHeartbeats 2000000 in
theorem fR_play_b (h : pRf e) (M : Mod t s) (v : Int64) {x : Int32} (hx : x < 1 ∨ 2000 < x) : RO (fR_play (pv e t) n (pL e 6 0 0) v x) e t n (some (.int 0)) s 1 := by
  unfold fR_play fR_play_13 fR_play_18
  generalize fR_play_39 zF = R
  simp (disch := first | assumption | omega | exact b2i_01 _ | exact Or.inl rfl | exact Or.inr rfl) only [rf_0 h, rf_1 h, rf_2 h, rf_3 h, rf_4 h, rf_5 h, rf_6 h, rf_7 h, rf_8 h, rf_9 h, rf_10 h, rf_11 h, rf_12 h, rf_13 h, rf_14 h, rf_15 h, rf_16 h, rf_17 h, rf_18 h, rf_19 h, rf_20 h, rf_21 h, rf_22 h, rf_23 h, rf_24 h, rf_25 h, rf_26 h, rf_27 h, rf_28 h, rf_29 h, rf_30 h, rf_31 h, rf_32 h, rf_33 h, rp_1 h, rp_2 h, rp_7 h, rp_19 h, rp_29 h, rg_1 h, rg_2 h, rg_3 h, rg_4 h, rg_5 h, rg_6 h, rg_7 h, rg_8 h, rg_9 h, rg_10 h, rg_11 h, rg_12 h, rg_13 h, rg_14 h, rg_15 h, rg_16 h, rg_17 h, rg_18 h, rg_19 h, rg_20 h, rg_21 h, rg_22 h, rg_23 h, rg_24 h, rg_25 h, rg_26 h, rg_27 h, rg_28 h, rs_1 h, rs_2 h, rs_3 h, rs_4 h, rs_5 h, rs_6 h, rs_7 h, rs_8 h, rs_9 h, rs_10 h, rs_11 h, rs_12 h, rs_13 h, rs_14 h, rs_15 h, rs_16 h, rs_17 h, rs_18 h, rs_19 h, rs_20 h, rs_21 h, rs_22 h, rs_23 h, rs_24 h, rs_25 h, rs_26 h, rs_27 h, rs_28 h, ro h, rI_uI, rI_uJ, rI_uR, rI_wI, rI_wJ, rJ_uJ, rJ_uI, rJ_uR, rJ_wI, rJ_wJ, rR_uR, rR_uI, rR_uJ, rR_wI, rR_wJ, qI_wI, qI_wJ, qI_uI, qI_uJ, qI_uR, qJ_wJ, qJ_wI, qJ_uI, qJ_uJ, qJ_uR, Option.bind_some, zcV_s, zcI_s, zcL_s, zrI, zrV, zrL, nI_mul8, nI_mul16, nI_mul200, nI_1, eq_self, Nat.reduceEqDiff, and_true, true_and, and_false, false_and, and_self, ite_true, ite_false, ↓reduceIte, Nat.add_zero, if_true, if_false, b2i_t, b2i_f, o2i_s, o2i_n, M.c_f0, M.c_f2, M.c_f7, M.c_f19, M.c_f29, M.r1, M.r2, M.r3, M.r4, M.r5, M.r6, M.r9, M.r11, M.r12, M.r13, M.r14, M.r15, M.r16, M.r17, M.r18, M.r19, M.r20, M.r21, M.r22, M.r23, M.r24, nI_leI, nI_ltI, nI_eq, nI_eq0, nI_eqm1, b2i_eq0, le10]
  by_cases q : x < 1
  · rw [if_pos q]
    exact ⟨_, rfl, M.v_code, Fr.wI p6 (Fr.refl _ _), rfl⟩
  · have q2 : ¬ x ≤ 2000 := by
      rcases hx with hx | hx
      · exact absurd hx q
      · exact Int32.not_le.mpr hx
    rw [if_neg q, if_neg q2]
    exact ⟨_, rfl, M.v_code, Fr.wI p6 (Fr.refl _ _), rfl⟩
set_option maxHeartbeats 2000000 in
theorem fR_play_g (h : pRf e) (M : Mod t s) (P : zSt → Prop) (hP : ∀ s, P s → Gd s) (hk : ∀ s, P s → P (keeperS s).2) (hg : ∀ s x, P s → x < s_N s → P (goS s x).2) (hp : P s) (v : Int64) {T : Nat} (h1 : 1 ≤ T) (hT : T ≤ 2000) : RO (fR_play (pv e t) n (pL e 6 0 0) v (nI T)) e t n (some (.int (nI (playS T s v 0).1))) (playS T s v 0).2 0 := by
  obtain ⟨t2, h2, M2, F2⟩ := fR_play_39_eq (n := n) h P hP hk hg hT T 0 (wI t 6 0 1 0) s v 0 zF (Nat.zero_add _) (zF_big (by omega)) M.v_code hp
  have h2' : fR_play_39 zF (pv e (wI t 6 0 1 0)) n (pL e 6 0 0) (nI T) v 0 0 = _ := h2
  refine ⟨t2, ?_, M2, fr_code F2⟩
  rw [← h2']
  unfold fR_play fR_play_13 fR_play_18
  generalize fR_play_39 zF = R
  have q1 : ¬ nI T < (1 : Int32) := by rw [show (1 : Int32) = nI 1 from rfl, nI_ltI (by omega) (by decide)]; omega
  have q2 : nI T ≤ (2000 : Int32) := by rw [show (2000 : Int32) = nI 2000 from rfl, nI_leI (by omega) (by decide)]; omega
  rw [if_neg q1, if_pos q2]
  simp (disch := first | assumption | omega | exact b2i_01 _ | exact Or.inl rfl | exact Or.inr rfl) only [rf_0 h, rf_1 h, rf_2 h, rf_3 h, rf_4 h, rf_5 h, rf_6 h, rf_7 h, rf_8 h, rf_9 h, rf_10 h, rf_11 h, rf_12 h, rf_13 h, rf_14 h, rf_15 h, rf_16 h, rf_17 h, rf_18 h, rf_19 h, rf_20 h, rf_21 h, rf_22 h, rf_23 h, rf_24 h, rf_25 h, rf_26 h, rf_27 h, rf_28 h, rf_29 h, rf_30 h, rf_31 h, rf_32 h, rf_33 h, rp_1 h, rp_2 h, rp_7 h, rp_19 h, rp_29 h, rg_1 h, rg_2 h, rg_3 h, rg_4 h, rg_5 h, rg_6 h, rg_7 h, rg_8 h, rg_9 h, rg_10 h, rg_11 h, rg_12 h, rg_13 h, rg_14 h, rg_15 h, rg_16 h, rg_17 h, rg_18 h, rg_19 h, rg_20 h, rg_21 h, rg_22 h, rg_23 h, rg_24 h, rg_25 h, rg_26 h, rg_27 h, rg_28 h, rs_1 h, rs_2 h, rs_3 h, rs_4 h, rs_5 h, rs_6 h, rs_7 h, rs_8 h, rs_9 h, rs_10 h, rs_11 h, rs_12 h, rs_13 h, rs_14 h, rs_15 h, rs_16 h, rs_17 h, rs_18 h, rs_19 h, rs_20 h, rs_21 h, rs_22 h, rs_23 h, rs_24 h, rs_25 h, rs_26 h, rs_27 h, rs_28 h, ro h, rI_uI, rI_uJ, rI_uR, rI_wI, rI_wJ, rJ_uJ, rJ_uI, rJ_uR, rJ_wI, rJ_wJ, rR_uR, rR_uI, rR_uJ, rR_wI, rR_wJ, qI_wI, qI_wJ, qI_uI, qI_uJ, qI_uR, qJ_wJ, qJ_wI, qJ_uI, qJ_uJ, qJ_uR, Option.bind_some, zcV_s, zcI_s, zcL_s, zrI, zrV, zrL, nI_mul8, nI_mul16, nI_mul200, nI_1, eq_self, Nat.reduceEqDiff, and_true, true_and, and_false, false_and, and_self, ite_true, ite_false, ↓reduceIte, Nat.add_zero, if_true, if_false, b2i_t, b2i_f, o2i_s, o2i_n, M.c_f0, M.c_f2, M.c_f7, M.c_f19, M.c_f29, M.r1, M.r2, M.r3, M.r4, M.r5, M.r6, M.r9, M.r11, M.r12, M.r13, M.r14, M.r15, M.r16, M.r17, M.r18, M.r19, M.r20, M.r21, M.r22, M.r23, M.r24, nI_leI, nI_ltI, nI_eq, nI_eq0, nI_eqm1, b2i_eq0, le00]
def keepM (m : Nat) : Nat → zSt → zSt
  | 0, s => s
  | k + 1, s => let s' := keepM m k s; if s_ended s' k = true ∨ hasIn s' k = false then keepS s' m k else s'
theorem keepM_s (m k : Nat) (s : zSt) : keepM m (k + 1) s = if s_ended (keepM m k s) k = true ∨ hasIn (keepM m k s) k = false then keepS (keepM m k s) m k else keepM m k s := rfl
def markS (s : zSt) : zSt := keepM (s_M s) (s_N s) (posS (u_M (u_tol s true) (s_M s + 1)) (s_M s) (s_C s))
theorem kM_M (s : zSt) (m k : Nat) : s_M (keepM m k s) = s_M s := by
  induction k with
  | zero => rfl
  | succ k ih =>
    rw [keepM_s]
    split
    · rw [z_keepS_M]; exact ih
    · exact ih
theorem kM_N (s : zSt) (m k : Nat) : s_N (keepM m k s) = s_N s := by
  induction k with
  | zero => rfl
  | succ k ih =>
    rw [keepM_s]
    split
    · rw [z_keepS_N]; exact ih
    · exact ih
theorem kM_a (s : zSt) (m k : Nat) : (s_acks (keepM m k s)).length ≤ (s_acks s).length + k := by
  induction k with
  | zero => exact Nat.le_refl _
  | succ k ih =>
    rw [keepM_s]
    split
    · rw [z_keepS_acks, List.length_append, List.length_singleton]; omega
    · omega
theorem Wf.kM (w : Wf s) {m : Nat} (hm : m < s_M s) (hA : (s_acks s).length ≤ 900) {k : Nat} (hk : k ≤ s_N s) : Wf (keepM m k s) := by
  induction k with
  | zero => exact w
  | succ k ih =>
    have w1 := ih (by omega)
    rw [keepM_s]
    split
    · refine w1.keep (by rw [kM_M]; exact hm) (by rw [kM_N]; omega) ?_
      have := kM_a s m k
      have := w.N8
      omega
    · exact w1
theorem Wf.utol (w : Wf s) {b : Bool} : Wf (u_tol s b) := ⟨(by simp only [y_N_tol, y_C_tol, y_fr_tol, y_to_tol, y_sum_tol, y_rows_tol, y_ended_tol, y_latest_tol, y_q_tol, y_log_tol, y_fin_tol, y_stand_tol, y_over_tol, y_held_tol, y_M_tol, y_cond_tol, y_pos_tol, y_came_tol, y_kept_tol, y_kEnd_tol, y_kSum_tol, y_kRows_tol, y_fails_tol, y_taken_tol, y_acks_tol, su_tol]; exact w.N1), (by simp only [y_N_tol, y_C_tol, y_fr_tol, y_to_tol, y_sum_tol, y_rows_tol, y_ended_tol, y_latest_tol, y_q_tol, y_log_tol, y_fin_tol, y_stand_tol, y_over_tol, y_held_tol, y_M_tol, y_cond_tol, y_pos_tol, y_came_tol, y_kept_tol, y_kEnd_tol, y_kSum_tol, y_kRows_tol, y_fails_tol, y_taken_tol, y_acks_tol, su_tol]; exact w.N8), (by simp only [y_N_tol, y_C_tol, y_fr_tol, y_to_tol, y_sum_tol, y_rows_tol, y_ended_tol, y_latest_tol, y_q_tol, y_log_tol, y_fin_tol, y_stand_tol, y_over_tol, y_held_tol, y_M_tol, y_cond_tol, y_pos_tol, y_came_tol, y_kept_tol, y_kEnd_tol, y_kSum_tol, y_kRows_tol, y_fails_tol, y_taken_tol, y_acks_tol, su_tol]; exact w.C), (by simp only [y_N_tol, y_C_tol, y_fr_tol, y_to_tol, y_sum_tol, y_rows_tol, y_ended_tol, y_latest_tol, y_q_tol, y_log_tol, y_fin_tol, y_stand_tol, y_over_tol, y_held_tol, y_M_tol, y_cond_tol, y_pos_tol, y_came_tol, y_kept_tol, y_kEnd_tol, y_kSum_tol, y_kRows_tol, y_fails_tol, y_taken_tol, y_acks_tol, su_tol]; exact w.M), (by simp only [y_N_tol, y_C_tol, y_fr_tol, y_to_tol, y_sum_tol, y_rows_tol, y_ended_tol, y_latest_tol, y_q_tol, y_log_tol, y_fin_tol, y_stand_tol, y_over_tol, y_held_tol, y_M_tol, y_cond_tol, y_pos_tol, y_came_tol, y_kept_tol, y_kEnd_tol, y_kSum_tol, y_kRows_tol, y_fails_tol, y_taken_tol, y_acks_tol, su_tol]; exact fun c => w.to), (by simp only [y_N_tol, y_C_tol, y_fr_tol, y_to_tol, y_sum_tol, y_rows_tol, y_ended_tol, y_latest_tol, y_q_tol, y_log_tol, y_fin_tol, y_stand_tol, y_over_tol, y_held_tol, y_M_tol, y_cond_tol, y_pos_tol, y_came_tol, y_kept_tol, y_kEnd_tol, y_kSum_tol, y_kRows_tol, y_fails_tol, y_taken_tol, y_acks_tol, su_tol]; exact fun c k => w.fr), (by simp only [y_N_tol, y_C_tol, y_fr_tol, y_to_tol, y_sum_tol, y_rows_tol, y_ended_tol, y_latest_tol, y_q_tol, y_log_tol, y_fin_tol, y_stand_tol, y_over_tol, y_held_tol, y_M_tol, y_cond_tol, y_pos_tol, y_came_tol, y_kept_tol, y_kEnd_tol, y_kSum_tol, y_kRows_tol, y_fails_tol, y_taken_tol, y_acks_tol, su_tol]; exact w.q), (by simp only [y_N_tol, y_C_tol, y_fr_tol, y_to_tol, y_sum_tol, y_rows_tol, y_ended_tol, y_latest_tol, y_q_tol, y_log_tol, y_fin_tol, y_stand_tol, y_over_tol, y_held_tol, y_M_tol, y_cond_tol, y_pos_tol, y_came_tol, y_kept_tol, y_kEnd_tol, y_kSum_tol, y_kRows_tol, y_fails_tol, y_taken_tol, y_acks_tol, su_tol]; exact w.log), (by simp only [y_N_tol, y_C_tol, y_fr_tol, y_to_tol, y_sum_tol, y_rows_tol, y_ended_tol, y_latest_tol, y_q_tol, y_log_tol, y_fin_tol, y_stand_tol, y_over_tol, y_held_tol, y_M_tol, y_cond_tol, y_pos_tol, y_came_tol, y_kept_tol, y_kEnd_tol, y_kSum_tol, y_kRows_tol, y_fails_tol, y_taken_tol, y_acks_tol, su_tol]; exact w.stand), (by simp only [y_N_tol, y_C_tol, y_fr_tol, y_to_tol, y_sum_tol, y_rows_tol, y_ended_tol, y_latest_tol, y_q_tol, y_log_tol, y_fin_tol, y_stand_tol, y_over_tol, y_held_tol, y_M_tol, y_cond_tol, y_pos_tol, y_came_tol, y_kept_tol, y_kEnd_tol, y_kSum_tol, y_kRows_tol, y_fails_tol, y_taken_tol, y_acks_tol, su_tol]; exact fun c k => w.held), (by simp only [y_N_tol, y_C_tol, y_fr_tol, y_to_tol, y_sum_tol, y_rows_tol, y_ended_tol, y_latest_tol, y_q_tol, y_log_tol, y_fin_tol, y_stand_tol, y_over_tol, y_held_tol, y_M_tol, y_cond_tol, y_pos_tol, y_came_tol, y_kept_tol, y_kEnd_tol, y_kSum_tol, y_kRows_tol, y_fails_tol, y_taken_tol, y_acks_tol, su_tol]; exact fun x k => w.latest), (by simp only [y_N_tol, y_C_tol, y_fr_tol, y_to_tol, y_sum_tol, y_rows_tol, y_ended_tol, y_latest_tol, y_q_tol, y_log_tol, y_fin_tol, y_stand_tol, y_over_tol, y_held_tol, y_M_tol, y_cond_tol, y_pos_tol, y_came_tol, y_kept_tol, y_kEnd_tol, y_kSum_tol, y_kRows_tol, y_fails_tol, y_taken_tol, y_acks_tol, su_tol]; exact fun z => w.acks), (by simp only [y_N_tol, y_C_tol, y_fr_tol, y_to_tol, y_sum_tol, y_rows_tol, y_ended_tol, y_latest_tol, y_q_tol, y_log_tol, y_fin_tol, y_stand_tol, y_over_tol, y_held_tol, y_M_tol, y_cond_tol, y_pos_tol, y_came_tol, y_kept_tol, y_kEnd_tol, y_kSum_tol, y_kRows_tol, y_fails_tol, y_taken_tol, y_acks_tol, su_tol]; exact w.ackn), (by simp only [y_N_tol, y_C_tol, y_fr_tol, y_to_tol, y_sum_tol, y_rows_tol, y_ended_tol, y_latest_tol, y_q_tol, y_log_tol, y_fin_tol, y_stand_tol, y_over_tol, y_held_tol, y_M_tol, y_cond_tol, y_pos_tol, y_came_tol, y_kept_tol, y_kEnd_tol, y_kSum_tol, y_kRows_tol, y_fails_tol, y_taken_tol, y_acks_tol, su_tol]; exact w.cond), (by simp only [y_N_tol, y_C_tol, y_fr_tol, y_to_tol, y_sum_tol, y_rows_tol, y_ended_tol, y_latest_tol, y_q_tol, y_log_tol, y_fin_tol, y_stand_tol, y_over_tol, y_held_tol, y_M_tol, y_cond_tol, y_pos_tol, y_came_tol, y_kept_tol, y_kEnd_tol, y_kSum_tol, y_kRows_tol, y_fails_tol, y_taken_tol, y_acks_tol, su_tol]; exact w.pos), (by simp only [y_N_tol, y_C_tol, y_fr_tol, y_to_tol, y_sum_tol, y_rows_tol, y_ended_tol, y_latest_tol, y_q_tol, y_log_tol, y_fin_tol, y_stand_tol, y_over_tol, y_held_tol, y_M_tol, y_cond_tol, y_pos_tol, y_came_tol, y_kept_tol, y_kEnd_tol, y_kSum_tol, y_kRows_tol, y_fails_tol, y_taken_tol, y_acks_tol, su_tol]; exact fun c z => w.kin), (by simp only [y_N_tol, y_C_tol, y_fr_tol, y_to_tol, y_sum_tol, y_rows_tol, y_ended_tol, y_latest_tol, y_q_tol, y_log_tol, y_fin_tol, y_stand_tol, y_over_tol, y_held_tol, y_M_tol, y_cond_tol, y_pos_tol, y_came_tol, y_kept_tol, y_kEnd_tol, y_kSum_tol, y_kRows_tol, y_fails_tol, y_taken_tol, y_acks_tol, su_tol]; exact fun c z => w.bar), (by simp only [y_N_tol, y_C_tol, y_fr_tol, y_to_tol, y_sum_tol, y_rows_tol, y_ended_tol, y_latest_tol, y_q_tol, y_log_tol, y_fin_tol, y_stand_tol, y_over_tol, y_held_tol, y_M_tol, y_cond_tol, y_pos_tol, y_came_tol, y_kept_tol, y_kEnd_tol, y_kSum_tol, y_kRows_tol, y_fails_tol, y_taken_tol, y_acks_tol, su_tol]; exact fun c => w.src)⟩
theorem Wf.uM (w : Wf s) (h : s_M s < 40) : Wf (u_M s (s_M s + 1)) := by
  refine ⟨(by simp only [y_N_M, y_C_M, y_fr_M, y_to_M, y_tol_M, y_sum_M, y_rows_M, y_ended_M, y_latest_M, y_q_M, y_log_M, y_fin_M, y_stand_M, y_over_M, y_held_M, y_cond_M, y_pos_M, y_came_M, y_kept_M, y_kEnd_M, y_kSum_M, y_kRows_M, y_fails_M, y_taken_M, y_acks_M, su_M]; exact w.N1), (by simp only [y_N_M, y_C_M, y_fr_M, y_to_M, y_tol_M, y_sum_M, y_rows_M, y_ended_M, y_latest_M, y_q_M, y_log_M, y_fin_M, y_stand_M, y_over_M, y_held_M, y_cond_M, y_pos_M, y_came_M, y_kept_M, y_kEnd_M, y_kSum_M, y_kRows_M, y_fails_M, y_taken_M, y_acks_M, su_M]; exact w.N8), (by simp only [y_N_M, y_C_M, y_fr_M, y_to_M, y_tol_M, y_sum_M, y_rows_M, y_ended_M, y_latest_M, y_q_M, y_log_M, y_fin_M, y_stand_M, y_over_M, y_held_M, y_cond_M, y_pos_M, y_came_M, y_kept_M, y_kEnd_M, y_kSum_M, y_kRows_M, y_fails_M, y_taken_M, y_acks_M, su_M]; exact w.C), ?_, (by simp only [y_N_M, y_C_M, y_fr_M, y_to_M, y_tol_M, y_sum_M, y_rows_M, y_ended_M, y_latest_M, y_q_M, y_log_M, y_fin_M, y_stand_M, y_over_M, y_held_M, y_cond_M, y_pos_M, y_came_M, y_kept_M, y_kEnd_M, y_kSum_M, y_kRows_M, y_fails_M, y_taken_M, y_acks_M, su_M]; exact fun c => w.to), (by simp only [y_N_M, y_C_M, y_fr_M, y_to_M, y_tol_M, y_sum_M, y_rows_M, y_ended_M, y_latest_M, y_q_M, y_log_M, y_fin_M, y_stand_M, y_over_M, y_held_M, y_cond_M, y_pos_M, y_came_M, y_kept_M, y_kEnd_M, y_kSum_M, y_kRows_M, y_fails_M, y_taken_M, y_acks_M, su_M]; exact fun c k => w.fr), (by simp only [y_N_M, y_C_M, y_fr_M, y_to_M, y_tol_M, y_sum_M, y_rows_M, y_ended_M, y_latest_M, y_q_M, y_log_M, y_fin_M, y_stand_M, y_over_M, y_held_M, y_cond_M, y_pos_M, y_came_M, y_kept_M, y_kEnd_M, y_kSum_M, y_kRows_M, y_fails_M, y_taken_M, y_acks_M, su_M]; exact w.q), (by simp only [y_N_M, y_C_M, y_fr_M, y_to_M, y_tol_M, y_sum_M, y_rows_M, y_ended_M, y_latest_M, y_q_M, y_log_M, y_fin_M, y_stand_M, y_over_M, y_held_M, y_cond_M, y_pos_M, y_came_M, y_kept_M, y_kEnd_M, y_kSum_M, y_kRows_M, y_fails_M, y_taken_M, y_acks_M, su_M]; exact w.log), (by simp only [y_N_M, y_C_M, y_fr_M, y_to_M, y_tol_M, y_sum_M, y_rows_M, y_ended_M, y_latest_M, y_q_M, y_log_M, y_fin_M, y_stand_M, y_over_M, y_held_M, y_cond_M, y_pos_M, y_came_M, y_kept_M, y_kEnd_M, y_kSum_M, y_kRows_M, y_fails_M, y_taken_M, y_acks_M, su_M]; exact w.stand), ?_, (by simp only [y_N_M, y_C_M, y_fr_M, y_to_M, y_tol_M, y_sum_M, y_rows_M, y_ended_M, y_latest_M, y_q_M, y_log_M, y_fin_M, y_stand_M, y_over_M, y_held_M, y_cond_M, y_pos_M, y_came_M, y_kept_M, y_kEnd_M, y_kSum_M, y_kRows_M, y_fails_M, y_taken_M, y_acks_M, su_M]; exact fun x k => w.latest), ?_, (by simp only [y_N_M, y_C_M, y_fr_M, y_to_M, y_tol_M, y_sum_M, y_rows_M, y_ended_M, y_latest_M, y_q_M, y_log_M, y_fin_M, y_stand_M, y_over_M, y_held_M, y_cond_M, y_pos_M, y_came_M, y_kept_M, y_kEnd_M, y_kSum_M, y_kRows_M, y_fails_M, y_taken_M, y_acks_M, su_M]; exact w.ackn), (by simp only [y_N_M, y_C_M, y_fr_M, y_to_M, y_tol_M, y_sum_M, y_rows_M, y_ended_M, y_latest_M, y_q_M, y_log_M, y_fin_M, y_stand_M, y_over_M, y_held_M, y_cond_M, y_pos_M, y_came_M, y_kept_M, y_kEnd_M, y_kSum_M, y_kRows_M, y_fails_M, y_taken_M, y_acks_M, su_M]; exact w.cond), (by simp only [y_N_M, y_C_M, y_fr_M, y_to_M, y_tol_M, y_sum_M, y_rows_M, y_ended_M, y_latest_M, y_q_M, y_log_M, y_fin_M, y_stand_M, y_over_M, y_held_M, y_cond_M, y_pos_M, y_came_M, y_kept_M, y_kEnd_M, y_kSum_M, y_kRows_M, y_fails_M, y_taken_M, y_acks_M, su_M]; exact w.pos), (by simp only [y_N_M, y_C_M, y_fr_M, y_to_M, y_tol_M, y_sum_M, y_rows_M, y_ended_M, y_latest_M, y_q_M, y_log_M, y_fin_M, y_stand_M, y_over_M, y_held_M, y_cond_M, y_pos_M, y_came_M, y_kept_M, y_kEnd_M, y_kSum_M, y_kRows_M, y_fails_M, y_taken_M, y_acks_M, su_M]; exact fun c z => w.kin), ?_, (by simp only [y_N_M, y_C_M, y_fr_M, y_to_M, y_tol_M, y_sum_M, y_rows_M, y_ended_M, y_latest_M, y_q_M, y_log_M, y_fin_M, y_stand_M, y_over_M, y_held_M, y_cond_M, y_pos_M, y_came_M, y_kept_M, y_kEnd_M, y_kSum_M, y_kRows_M, y_fails_M, y_taken_M, y_acks_M, su_M]; exact fun c => w.src)⟩
  · rw [su_M]; omega
  · intro c k hk
    rw [y_held_M] at hk
    rw [su_M]
    have := w.held hk
    omega
  · intro z hz
    rw [y_acks_M] at hz
    rw [su_M, y_N_M]
    have := w.acks hz
    exact ⟨by omega, this.2⟩
  · intro c z hz h1
    rw [y_q_M] at hz
    rw [su_M]
    obtain ⟨m, hm, h2⟩ := w.bar hz h1
    exact ⟨m, by omega, h2⟩
theorem Wf.wpos (w : Wf s) {m c : Nat} : Wf (posS s m c) := by
  refine ⟨(by simp only [z_posS_N, z_posS_C, z_posS_fr, z_posS_to, z_posS_tol, z_posS_sum, z_posS_rows, z_posS_ended, z_posS_latest, z_posS_q, z_posS_log, z_posS_fin, z_posS_stand, z_posS_over, z_posS_held, z_posS_M, z_posS_cond, z_posS_pos, z_posS_came, z_posS_kept, z_posS_kEnd, z_posS_kSum, z_posS_kRows, z_posS_fails, z_posS_taken, z_posS_acks]; exact w.N1), (by simp only [z_posS_N, z_posS_C, z_posS_fr, z_posS_to, z_posS_tol, z_posS_sum, z_posS_rows, z_posS_ended, z_posS_latest, z_posS_q, z_posS_log, z_posS_fin, z_posS_stand, z_posS_over, z_posS_held, z_posS_M, z_posS_cond, z_posS_pos, z_posS_came, z_posS_kept, z_posS_kEnd, z_posS_kSum, z_posS_kRows, z_posS_fails, z_posS_taken, z_posS_acks]; exact w.N8), (by simp only [z_posS_N, z_posS_C, z_posS_fr, z_posS_to, z_posS_tol, z_posS_sum, z_posS_rows, z_posS_ended, z_posS_latest, z_posS_q, z_posS_log, z_posS_fin, z_posS_stand, z_posS_over, z_posS_held, z_posS_M, z_posS_cond, z_posS_pos, z_posS_came, z_posS_kept, z_posS_kEnd, z_posS_kSum, z_posS_kRows, z_posS_fails, z_posS_taken, z_posS_acks]; exact w.C), (by simp only [z_posS_N, z_posS_C, z_posS_fr, z_posS_to, z_posS_tol, z_posS_sum, z_posS_rows, z_posS_ended, z_posS_latest, z_posS_q, z_posS_log, z_posS_fin, z_posS_stand, z_posS_over, z_posS_held, z_posS_M, z_posS_cond, z_posS_pos, z_posS_came, z_posS_kept, z_posS_kEnd, z_posS_kSum, z_posS_kRows, z_posS_fails, z_posS_taken, z_posS_acks]; exact w.M), (by simp only [z_posS_N, z_posS_C, z_posS_fr, z_posS_to, z_posS_tol, z_posS_sum, z_posS_rows, z_posS_ended, z_posS_latest, z_posS_q, z_posS_log, z_posS_fin, z_posS_stand, z_posS_over, z_posS_held, z_posS_M, z_posS_cond, z_posS_pos, z_posS_came, z_posS_kept, z_posS_kEnd, z_posS_kSum, z_posS_kRows, z_posS_fails, z_posS_taken, z_posS_acks]; exact fun c => w.to), (by simp only [z_posS_N, z_posS_C, z_posS_fr, z_posS_to, z_posS_tol, z_posS_sum, z_posS_rows, z_posS_ended, z_posS_latest, z_posS_q, z_posS_log, z_posS_fin, z_posS_stand, z_posS_over, z_posS_held, z_posS_M, z_posS_cond, z_posS_pos, z_posS_came, z_posS_kept, z_posS_kEnd, z_posS_kSum, z_posS_kRows, z_posS_fails, z_posS_taken, z_posS_acks]; exact fun c k => w.fr), (by simp only [z_posS_N, z_posS_C, z_posS_fr, z_posS_to, z_posS_tol, z_posS_sum, z_posS_rows, z_posS_ended, z_posS_latest, z_posS_q, z_posS_log, z_posS_fin, z_posS_stand, z_posS_over, z_posS_held, z_posS_M, z_posS_cond, z_posS_pos, z_posS_came, z_posS_kept, z_posS_kEnd, z_posS_kSum, z_posS_kRows, z_posS_fails, z_posS_taken, z_posS_acks]; exact w.q), (by simp only [z_posS_N, z_posS_C, z_posS_fr, z_posS_to, z_posS_tol, z_posS_sum, z_posS_rows, z_posS_ended, z_posS_latest, z_posS_q, z_posS_log, z_posS_fin, z_posS_stand, z_posS_over, z_posS_held, z_posS_M, z_posS_cond, z_posS_pos, z_posS_came, z_posS_kept, z_posS_kEnd, z_posS_kSum, z_posS_kRows, z_posS_fails, z_posS_taken, z_posS_acks]; exact w.log), (by simp only [z_posS_N, z_posS_C, z_posS_fr, z_posS_to, z_posS_tol, z_posS_sum, z_posS_rows, z_posS_ended, z_posS_latest, z_posS_q, z_posS_log, z_posS_fin, z_posS_stand, z_posS_over, z_posS_held, z_posS_M, z_posS_cond, z_posS_pos, z_posS_came, z_posS_kept, z_posS_kEnd, z_posS_kSum, z_posS_kRows, z_posS_fails, z_posS_taken, z_posS_acks]; exact w.stand), (by simp only [z_posS_N, z_posS_C, z_posS_fr, z_posS_to, z_posS_tol, z_posS_sum, z_posS_rows, z_posS_ended, z_posS_latest, z_posS_q, z_posS_log, z_posS_fin, z_posS_stand, z_posS_over, z_posS_held, z_posS_M, z_posS_cond, z_posS_pos, z_posS_came, z_posS_kept, z_posS_kEnd, z_posS_kSum, z_posS_kRows, z_posS_fails, z_posS_taken, z_posS_acks]; exact fun c k => w.held), (by simp only [z_posS_N, z_posS_C, z_posS_fr, z_posS_to, z_posS_tol, z_posS_sum, z_posS_rows, z_posS_ended, z_posS_latest, z_posS_q, z_posS_log, z_posS_fin, z_posS_stand, z_posS_over, z_posS_held, z_posS_M, z_posS_cond, z_posS_pos, z_posS_came, z_posS_kept, z_posS_kEnd, z_posS_kSum, z_posS_kRows, z_posS_fails, z_posS_taken, z_posS_acks]; exact fun x k => w.latest), (by simp only [z_posS_N, z_posS_C, z_posS_fr, z_posS_to, z_posS_tol, z_posS_sum, z_posS_rows, z_posS_ended, z_posS_latest, z_posS_q, z_posS_log, z_posS_fin, z_posS_stand, z_posS_over, z_posS_held, z_posS_M, z_posS_cond, z_posS_pos, z_posS_came, z_posS_kept, z_posS_kEnd, z_posS_kSum, z_posS_kRows, z_posS_fails, z_posS_taken, z_posS_acks]; exact fun z => w.acks), (by simp only [z_posS_N, z_posS_C, z_posS_fr, z_posS_to, z_posS_tol, z_posS_sum, z_posS_rows, z_posS_ended, z_posS_latest, z_posS_q, z_posS_log, z_posS_fin, z_posS_stand, z_posS_over, z_posS_held, z_posS_M, z_posS_cond, z_posS_pos, z_posS_came, z_posS_kept, z_posS_kEnd, z_posS_kSum, z_posS_kRows, z_posS_fails, z_posS_taken, z_posS_acks]; exact w.ackn), (by simp only [z_posS_N, z_posS_C, z_posS_fr, z_posS_to, z_posS_tol, z_posS_sum, z_posS_rows, z_posS_ended, z_posS_latest, z_posS_q, z_posS_log, z_posS_fin, z_posS_stand, z_posS_over, z_posS_held, z_posS_M, z_posS_cond, z_posS_pos, z_posS_came, z_posS_kept, z_posS_kEnd, z_posS_kSum, z_posS_kRows, z_posS_fails, z_posS_taken, z_posS_acks]; exact w.cond), ?_, (by simp only [z_posS_N, z_posS_C, z_posS_fr, z_posS_to, z_posS_tol, z_posS_sum, z_posS_rows, z_posS_ended, z_posS_latest, z_posS_q, z_posS_log, z_posS_fin, z_posS_stand, z_posS_over, z_posS_held, z_posS_M, z_posS_cond, z_posS_pos, z_posS_came, z_posS_kept, z_posS_kEnd, z_posS_kSum, z_posS_kRows, z_posS_fails, z_posS_taken, z_posS_acks]; exact fun c z => w.kin), (by simp only [z_posS_N, z_posS_C, z_posS_fr, z_posS_to, z_posS_tol, z_posS_sum, z_posS_rows, z_posS_ended, z_posS_latest, z_posS_q, z_posS_log, z_posS_fin, z_posS_stand, z_posS_over, z_posS_held, z_posS_M, z_posS_cond, z_posS_pos, z_posS_came, z_posS_kept, z_posS_kEnd, z_posS_kSum, z_posS_kRows, z_posS_fails, z_posS_taken, z_posS_acks]; exact fun c z => w.bar), (by simp only [z_posS_N, z_posS_C, z_posS_fr, z_posS_to, z_posS_tol, z_posS_sum, z_posS_rows, z_posS_ended, z_posS_latest, z_posS_q, z_posS_log, z_posS_fin, z_posS_stand, z_posS_over, z_posS_held, z_posS_M, z_posS_cond, z_posS_pos, z_posS_came, z_posS_kept, z_posS_kEnd, z_posS_kSum, z_posS_kRows, z_posS_fails, z_posS_taken, z_posS_acks]; exact fun c => w.src)⟩
  intro a b
  rw [z_posS_pos]
  show (if a = m ∧ b < c then (s_log s b).length else s_pos s a b) ≤ 200
  split
  · exact w.log b
  · exact w.pos a b
theorem posS_s (s : zSt) (m c : Nat) : u_pos (posS s m c) (fu2 (s_pos (posS s m c)) m c (s_log s c).length) = posS s m (c + 1) := by
  have h1 : fu2 (s_pos (posS s m c)) m c (s_log s c).length = fun a b => if a = m ∧ b < c + 1 then (s_log s b).length else s_pos s a b := by
    rw [z_posS_pos]
    funext a b
    show (if a = m ∧ b = c then _ else if a = m ∧ b < c then (s_log s b).length else s_pos s a b) = _
    by_cases q : a = m ∧ b = c
    · rw [if_pos q, if_pos ⟨q.1, by omega⟩, q.2]
    · rw [if_neg q]
      by_cases r : a = m ∧ b < c
      · rw [if_pos r, if_pos ⟨r.1, by omega⟩]
      · rw [if_neg r, if_neg (fun z => r ⟨z.1, by have : b ≠ c := fun y => q ⟨z.1, y⟩; omega⟩)]
  rw [h1]
  rfl
theorem posS_0 (s : zSt) (m : Nat) : posS s m 0 = s := by
  unfold posS
  rw [show (fun a b => if a = m ∧ b < 0 then (s_log s b).length else s_pos s a b) = s_pos s from funext fun a => funext fun b => if_neg (by omega), uu_pos]
set_option maxHeartbeats 2000000 in
theorem fR_mark_57_eq (h : pRf e) (w : Wf s) {m : Nat} (hm : m < 40) : ∀ (d c : Nat) (t : pS) (f : Nat), c + d = s_C s → d < f → Mod t (posS s m c) → ∃ t', fR_mark_57 f (pv e t) n (pL e 6 0 0) (nI m) (nI c) = fR_mark_90 zF (pv e t') n (pL e 6 0 0) (nI m) 0 ∧ Mod t' (posS s m (s_C s)) ∧ Fr6 t t' := by
  have hN1 := w.N1; have hN8 := w.N8; have hC := w.C; have hM := w.M; have hA := w.ackn
  intro d
  induction d with
  | zero =>
    intro c t f hc hf M
    obtain ⟨f, rfl⟩ : ∃ g, f = g + 1 := ⟨f - 1, by omega⟩
    obtain rfl : c = s_C s := by omega
    refine ⟨t, ?_, M, Fr6.refl _⟩
    unfold fR_mark_57
    generalize fR_mark_90 zF = R
    simp (disch := first | assumption | omega | exact b2i_01 _ | exact Or.inl rfl | exact Or.inr rfl) only [rf_0 h, rf_1 h, rf_2 h, rf_3 h, rf_4 h, rf_5 h, rf_6 h, rf_7 h, rf_8 h, rf_9 h, rf_10 h, rf_11 h, rf_12 h, rf_13 h, rf_14 h, rf_15 h, rf_16 h, rf_17 h, rf_18 h, rf_19 h, rf_20 h, rf_21 h, rf_22 h, rf_23 h, rf_24 h, rf_25 h, rf_26 h, rf_27 h, rf_28 h, rf_29 h, rf_30 h, rf_31 h, rf_32 h, rf_33 h, rp_1 h, rp_2 h, rp_7 h, rp_19 h, rp_29 h, rg_1 h, rg_2 h, rg_3 h, rg_4 h, rg_5 h, rg_6 h, rg_7 h, rg_8 h, rg_9 h, rg_10 h, rg_11 h, rg_12 h, rg_13 h, rg_14 h, rg_15 h, rg_16 h, rg_17 h, rg_18 h, rg_19 h, rg_20 h, rg_21 h, rg_22 h, rg_23 h, rg_24 h, rg_25 h, rg_26 h, rg_27 h, rg_28 h, rs_1 h, rs_2 h, rs_3 h, rs_4 h, rs_5 h, rs_6 h, rs_7 h, rs_8 h, rs_9 h, rs_10 h, rs_11 h, rs_12 h, rs_13 h, rs_14 h, rs_15 h, rs_16 h, rs_17 h, rs_18 h, rs_19 h, rs_20 h, rs_21 h, rs_22 h, rs_23 h, rs_24 h, rs_25 h, rs_26 h, rs_27 h, rs_28 h, ro h, rI_uI, rI_uJ, rI_uR, rI_wI, rI_wJ, rJ_uJ, rJ_uI, rJ_uR, rJ_wI, rJ_wJ, rR_uR, rR_uI, rR_uJ, rR_wI, rR_wJ, qI_wI, qI_wJ, qI_uI, qI_uJ, qI_uR, qJ_wJ, qJ_wI, qJ_uI, qJ_uJ, qJ_uR, Option.bind_some, zcV_s, zcI_s, zcL_s, zrI, zrV, zrL, nI_mul8, nI_mul16, nI_mul200, nI_1, eq_self, Nat.reduceEqDiff, and_true, true_and, and_false, false_and, and_self, ite_true, ite_false, ↓reduceIte, Nat.add_zero, if_true, if_false, b2i_t, b2i_f, o2i_s, o2i_n, M.c_f0, M.c_f2, M.c_f7, M.c_f19, M.c_f29, M.r1, M.r2, M.r3, M.r4, M.r5, M.r6, M.r9, M.r11, M.r12, M.r13, M.r14, M.r15, M.r16, M.r17, M.r18, M.r19, M.r20, M.r21, M.r22, M.r23, M.r24, nI_leI, nI_ltI, nI_eq, nI_eq0, nI_eqm1, b2i_eq0, z_posS_C, Nat.le_refl]
  | succ d ih =>
    intro c t f hc hf M
    obtain ⟨f, rfl⟩ : ∃ g, f = g + 1 := ⟨f - 1, by omega⟩
    have q : ¬ s_C s ≤ c := by omega
    have M1 := M.v_pos (h2_fu nI (k := m) (j := c) (y := (s_log s c).length) M.c_r17 (by omega) (by omega) rfl)
    rw [posS_s] at M1
    obtain ⟨t3, h3, M3, F3⟩ := ih (c + 1) _ f (by omega) (by omega) M1
    refine ⟨t3, ?_, M3, (Fr6.uI (Fr6.refl _)).trans F3⟩
    rw [← h3]
    generalize hR : fR_mark_57 f = R
    unfold fR_mark_57
    rw [hR]
    generalize fR_mark_90 zF = R2
    simp (disch := first | assumption | omega | exact b2i_01 _ | exact Or.inl rfl | exact Or.inr rfl) only [rf_0 h, rf_1 h, rf_2 h, rf_3 h, rf_4 h, rf_5 h, rf_6 h, rf_7 h, rf_8 h, rf_9 h, rf_10 h, rf_11 h, rf_12 h, rf_13 h, rf_14 h, rf_15 h, rf_16 h, rf_17 h, rf_18 h, rf_19 h, rf_20 h, rf_21 h, rf_22 h, rf_23 h, rf_24 h, rf_25 h, rf_26 h, rf_27 h, rf_28 h, rf_29 h, rf_30 h, rf_31 h, rf_32 h, rf_33 h, rp_1 h, rp_2 h, rp_7 h, rp_19 h, rp_29 h, rg_1 h, rg_2 h, rg_3 h, rg_4 h, rg_5 h, rg_6 h, rg_7 h, rg_8 h, rg_9 h, rg_10 h, rg_11 h, rg_12 h, rg_13 h, rg_14 h, rg_15 h, rg_16 h, rg_17 h, rg_18 h, rg_19 h, rg_20 h, rg_21 h, rg_22 h, rg_23 h, rg_24 h, rg_25 h, rg_26 h, rg_27 h, rg_28 h, rs_1 h, rs_2 h, rs_3 h, rs_4 h, rs_5 h, rs_6 h, rs_7 h, rs_8 h, rs_9 h, rs_10 h, rs_11 h, rs_12 h, rs_13 h, rs_14 h, rs_15 h, rs_16 h, rs_17 h, rs_18 h, rs_19 h, rs_20 h, rs_21 h, rs_22 h, rs_23 h, rs_24 h, rs_25 h, rs_26 h, rs_27 h, rs_28 h, ro h, rI_uI, rI_uJ, rI_uR, rI_wI, rI_wJ, rJ_uJ, rJ_uI, rJ_uR, rJ_wI, rJ_wJ, rR_uR, rR_uI, rR_uJ, rR_wI, rR_wJ, qI_wI, qI_wJ, qI_uI, qI_uJ, qI_uR, qJ_wJ, qJ_wI, qJ_uI, qJ_uJ, qJ_uR, Option.bind_some, zcV_s, zcI_s, zcL_s, zrI, zrV, zrL, nI_mul8, nI_mul16, nI_mul200, nI_1, eq_self, Nat.reduceEqDiff, and_true, true_and, and_false, false_and, and_self, ite_true, ite_false, ↓reduceIte, Nat.add_zero, if_true, if_false, b2i_t, b2i_f, o2i_s, o2i_n, M.c_f0, M.c_f2, M.c_f7, M.c_f19, M.c_f29, M.r1, M.r2, M.r3, M.r4, M.r5, M.r6, M.r9, M.r11, M.r12, M.r13, M.r14, M.r15, M.r16, M.r17, M.r18, M.r19, M.r20, M.r21, M.r22, M.r23, M.r24, nI_leI, nI_ltI, nI_eq, nI_eq0, nI_eqm1, b2i_eq0, z_posS_C, z_posS_log, q, upd_fu]
set_option maxHeartbeats 2000000 in
theorem fR_mark_90_eq (h : pRf e) (w : Wf s) {m : Nat} (hm : m < s_M s) (hA : (s_acks s).length ≤ 900) : ∀ (d c : Nat) (t : pS) (f : Nat), c + d = s_N s → d < f → Mod t (keepM m c s) → ∃ t', fR_mark_90 f (pv e t) n (pL e 6 0 0) (nI m) (nI c) = some (.inl (some (.int (nI m))), pv e t', n) ∧ Mod t' (keepM m (s_N s) s) ∧ Fr6 t t' := by
  have hN8 := w.N8; have hM := w.M
  intro d
  induction d with
  | zero =>
    intro c t f hc hf M
    obtain ⟨f, rfl⟩ : ∃ g, f = g + 1 := ⟨f - 1, by omega⟩
    obtain rfl : c = s_N s := by omega
    unfold fR_mark_90
    simp (disch := first | assumption | omega | exact b2i_01 _ | exact Or.inl rfl | exact Or.inr rfl) only [rf_0 h, rf_1 h, rf_2 h, rf_3 h, rf_4 h, rf_5 h, rf_6 h, rf_7 h, rf_8 h, rf_9 h, rf_10 h, rf_11 h, rf_12 h, rf_13 h, rf_14 h, rf_15 h, rf_16 h, rf_17 h, rf_18 h, rf_19 h, rf_20 h, rf_21 h, rf_22 h, rf_23 h, rf_24 h, rf_25 h, rf_26 h, rf_27 h, rf_28 h, rf_29 h, rf_30 h, rf_31 h, rf_32 h, rf_33 h, rp_1 h, rp_2 h, rp_7 h, rp_19 h, rp_29 h, rg_1 h, rg_2 h, rg_3 h, rg_4 h, rg_5 h, rg_6 h, rg_7 h, rg_8 h, rg_9 h, rg_10 h, rg_11 h, rg_12 h, rg_13 h, rg_14 h, rg_15 h, rg_16 h, rg_17 h, rg_18 h, rg_19 h, rg_20 h, rg_21 h, rg_22 h, rg_23 h, rg_24 h, rg_25 h, rg_26 h, rg_27 h, rg_28 h, rs_1 h, rs_2 h, rs_3 h, rs_4 h, rs_5 h, rs_6 h, rs_7 h, rs_8 h, rs_9 h, rs_10 h, rs_11 h, rs_12 h, rs_13 h, rs_14 h, rs_15 h, rs_16 h, rs_17 h, rs_18 h, rs_19 h, rs_20 h, rs_21 h, rs_22 h, rs_23 h, rs_24 h, rs_25 h, rs_26 h, rs_27 h, rs_28 h, ro h, rI_uI, rI_uJ, rI_uR, rI_wI, rI_wJ, rJ_uJ, rJ_uI, rJ_uR, rJ_wI, rJ_wJ, rR_uR, rR_uI, rR_uJ, rR_wI, rR_wJ, qI_wI, qI_wJ, qI_uI, qI_uJ, qI_uR, qJ_wJ, qJ_wI, qJ_uI, qJ_uJ, qJ_uR, Option.bind_some, zcV_s, zcI_s, zcL_s, zrI, zrV, zrL, nI_mul8, nI_mul16, nI_mul200, nI_1, eq_self, Nat.reduceEqDiff, and_true, true_and, and_false, false_and, and_self, ite_true, ite_false, ↓reduceIte, Nat.add_zero, if_true, if_false, b2i_t, b2i_f, o2i_s, o2i_n, M.c_f0, M.c_f2, M.c_f7, M.c_f19, M.c_f29, M.r1, M.r2, M.r3, M.r4, M.r5, M.r6, M.r9, M.r11, M.r12, M.r13, M.r14, M.r15, M.r16, M.r17, M.r18, M.r19, M.r20, M.r21, M.r22, M.r23, M.r24, nI_leI, nI_ltI, nI_eq, nI_eq0, nI_eqm1, b2i_eq0, kM_N, Nat.le_refl]
    exact ⟨t, rfl, M, Fr6.refl _⟩
  | succ d ih =>
    intro c t f hc hf M
    obtain ⟨f, rfl⟩ : ∃ g, f = g + 1 := ⟨f - 1, by omega⟩
    have q : ¬ s_N s ≤ c := by omega
    have w2 : Wf (keepM m c s) := w.kM hm hA (by omega)
    have hA2 := kM_a s m c
    have hNN : s_N (keepM m c s) = s_N s := kM_N _ _ _
    obtain ⟨t1, h1, M1, F1⟩ := fR_keep_eq (n := n) (m := m) (x := c) h M (by omega) (by omega) (by omega)
    unfold fR_mark_90 fR_mark_115 fR_mark_121
    simp (disch := first | assumption | omega | exact b2i_01 _ | exact Or.inl rfl | exact Or.inr rfl) only [rf_0 h, rf_1 h, rf_2 h, rf_3 h, rf_4 h, rf_5 h, rf_6 h, rf_7 h, rf_8 h, rf_9 h, rf_10 h, rf_11 h, rf_12 h, rf_13 h, rf_14 h, rf_15 h, rf_16 h, rf_17 h, rf_18 h, rf_19 h, rf_20 h, rf_21 h, rf_22 h, rf_23 h, rf_24 h, rf_25 h, rf_26 h, rf_27 h, rf_28 h, rf_29 h, rf_30 h, rf_31 h, rf_32 h, rf_33 h, rp_1 h, rp_2 h, rp_7 h, rp_19 h, rp_29 h, rg_1 h, rg_2 h, rg_3 h, rg_4 h, rg_5 h, rg_6 h, rg_7 h, rg_8 h, rg_9 h, rg_10 h, rg_11 h, rg_12 h, rg_13 h, rg_14 h, rg_15 h, rg_16 h, rg_17 h, rg_18 h, rg_19 h, rg_20 h, rg_21 h, rg_22 h, rg_23 h, rg_24 h, rg_25 h, rg_26 h, rg_27 h, rg_28 h, rs_1 h, rs_2 h, rs_3 h, rs_4 h, rs_5 h, rs_6 h, rs_7 h, rs_8 h, rs_9 h, rs_10 h, rs_11 h, rs_12 h, rs_13 h, rs_14 h, rs_15 h, rs_16 h, rs_17 h, rs_18 h, rs_19 h, rs_20 h, rs_21 h, rs_22 h, rs_23 h, rs_24 h, rs_25 h, rs_26 h, rs_27 h, rs_28 h, ro h, rI_uI, rI_uJ, rI_uR, rI_wI, rI_wJ, rJ_uJ, rJ_uI, rJ_uR, rJ_wI, rJ_wJ, rR_uR, rR_uI, rR_uJ, rR_wI, rR_wJ, qI_wI, qI_wJ, qI_uI, qI_uJ, qI_uR, qJ_wJ, qJ_wI, qJ_uI, qJ_uJ, qJ_uR, Option.bind_some, zcV_s, zcI_s, zcL_s, zrI, zrV, zrL, nI_mul8, nI_mul16, nI_mul200, nI_1, eq_self, Nat.reduceEqDiff, and_true, true_and, and_false, false_and, and_self, ite_true, ite_false, ↓reduceIte, Nat.add_zero, if_true, if_false, b2i_t, b2i_f, o2i_s, o2i_n, M.c_f0, M.c_f2, M.c_f7, M.c_f19, M.c_f29, M.r1, M.r2, M.r3, M.r4, M.r5, M.r6, M.r9, M.r11, M.r12, M.r13, M.r14, M.r15, M.r16, M.r17, M.r18, M.r19, M.r20, M.r21, M.r22, M.r23, M.r24, nI_leI, nI_ltI, nI_eq, nI_eq0, nI_eqm1, b2i_eq0, kM_N, q, h1, fR_hasInto_eq h M w2 (show c < 8 by omega)]
    have key : (s_ended (keepM m c s) c = true ∨ hasIn (keepM m c s) c = false) → ∃ t', fR_mark_90 f (pv e t1) n (pL e 6 0 0) (nI m) (nI (c + 1)) = some (.inl (some (.int (nI m))), pv e t', n) ∧ Mod t' (keepM m (s_N s) s) ∧ Fr6 t t' := by
      intro hq
      obtain ⟨t3, h3, M3, F3⟩ := ih (c + 1) t1 f (by omega) (by omega) (by rw [keepM_s, if_pos hq]; exact M1)
      exact ⟨t3, h3, M3, F1.trans F3⟩
    cases hq1 : s_ended (keepM m c s) c with
    | true => rw [if_neg (by decide)]; exact key (Or.inl hq1)
    | false =>
      rw [if_pos rfl]
      cases hq2 : hasIn (keepM m c s) c with
      | false => rw [if_pos rfl]; exact key (Or.inr hq2)
      | true =>
        rw [if_neg (by decide)]
        exact ih (c + 1) t f (by omega) (by omega) (by rw [keepM_s, if_neg (by simp [hq1, hq2])]; exact M)
theorem begunS_le (w : Wf s) : begunS s ≤ 40 := by
  unfold begunS
  refine Nat.le_trans (List.length_filter_le _ _) ?_
  rw [List.length_range]
  exact w.M
set_option maxHeartbeats 2000000 in
theorem fR_mark_b (h : pRf e) (M : Mod t s) (w : Wf s) (hb : begunS s = 3 ∨ s_M s = 40) : RO (fR_mark (pv e t) n (pL e 6 0 0)) e t n (some (.int 0)) s 1 := by
  have hN1 := w.N1; have hN8 := w.N8; have hC := w.C; have hM := w.M; have hA := w.ackn
  have hb2 := begunS_le w
  unfold fR_mark fR_mark_18 fR_mark_23
  generalize fR_mark_57 zF = R
  simp (disch := first | assumption | omega | exact b2i_01 _ | exact Or.inl rfl | exact Or.inr rfl) only [rf_0 h, rf_1 h, rf_2 h, rf_3 h, rf_4 h, rf_5 h, rf_6 h, rf_7 h, rf_8 h, rf_9 h, rf_10 h, rf_11 h, rf_12 h, rf_13 h, rf_14 h, rf_15 h, rf_16 h, rf_17 h, rf_18 h, rf_19 h, rf_20 h, rf_21 h, rf_22 h, rf_23 h, rf_24 h, rf_25 h, rf_26 h, rf_27 h, rf_28 h, rf_29 h, rf_30 h, rf_31 h, rf_32 h, rf_33 h, rp_1 h, rp_2 h, rp_7 h, rp_19 h, rp_29 h, rg_1 h, rg_2 h, rg_3 h, rg_4 h, rg_5 h, rg_6 h, rg_7 h, rg_8 h, rg_9 h, rg_10 h, rg_11 h, rg_12 h, rg_13 h, rg_14 h, rg_15 h, rg_16 h, rg_17 h, rg_18 h, rg_19 h, rg_20 h, rg_21 h, rg_22 h, rg_23 h, rg_24 h, rg_25 h, rg_26 h, rg_27 h, rg_28 h, rs_1 h, rs_2 h, rs_3 h, rs_4 h, rs_5 h, rs_6 h, rs_7 h, rs_8 h, rs_9 h, rs_10 h, rs_11 h, rs_12 h, rs_13 h, rs_14 h, rs_15 h, rs_16 h, rs_17 h, rs_18 h, rs_19 h, rs_20 h, rs_21 h, rs_22 h, rs_23 h, rs_24 h, rs_25 h, rs_26 h, rs_27 h, rs_28 h, ro h, rI_uI, rI_uJ, rI_uR, rI_wI, rI_wJ, rJ_uJ, rJ_uI, rJ_uR, rJ_wI, rJ_wJ, rR_uR, rR_uI, rR_uJ, rR_wI, rR_wJ, qI_wI, qI_wJ, qI_uI, qI_uJ, qI_uR, qJ_wJ, qJ_wI, qJ_uI, qJ_uJ, qJ_uR, Option.bind_some, zcV_s, zcI_s, zcL_s, zrI, zrV, zrL, nI_mul8, nI_mul16, nI_mul200, nI_1, eq_self, Nat.reduceEqDiff, and_true, true_and, and_false, false_and, and_self, ite_true, ite_false, ↓reduceIte, Nat.add_zero, if_true, if_false, b2i_t, b2i_f, o2i_s, o2i_n, M.c_f0, M.c_f2, M.c_f7, M.c_f19, M.c_f29, M.r1, M.r2, M.r3, M.r4, M.r5, M.r6, M.r9, M.r11, M.r12, M.r13, M.r14, M.r15, M.r16, M.r17, M.r18, M.r19, M.r20, M.r21, M.r22, M.r23, M.r24, nI_leI, nI_ltI, nI_eq, nI_eq0, nI_eqm1, b2i_eq0, fR_begun_eq h M w, le10, show (3 : Int32) = nI 3 from rfl, show (40 : Int32) = nI 40 from rfl]
  by_cases q : begunS s = 3
  · rw [if_pos q]
    exact ⟨_, rfl, M.v_code, Fr.wI p6 (Fr.refl _ _), rfl⟩
  · have q2 : s_M s = 40 := by
      rcases hb with hb | hb
      · exact absurd hb q
      · exact hb
    rw [if_neg q, if_pos q2]
    exact ⟨_, rfl, M.v_code, Fr.wI p6 (Fr.refl _ _), rfl⟩
set_option maxHeartbeats 2000000 in
theorem fR_mark_g (h : pRf e) (M : Mod t s) (w : Wf s) (hA : (s_acks s).length ≤ 900) (hb : begunS s ≠ 3) (hM4 : s_M s ≠ 40) : RO (fR_mark (pv e t) n (pL e 6 0 0)) e t n (some (.int (nI (s_M s)))) (markS s) 0 := by
  have hN8 := w.N8; have hM := w.M; have hC := w.C
  have hb2 := begunS_le w
  have M1 := ((M.v_code (v := 0)).v_tol (v := 1) (g := true) rfl).v_M (v := nI (s_M s + 1)) (g := s_M s + 1) rfl
  have w1 : Wf (u_M (u_tol s true) (s_M s + 1)) := (w.utol (b := true)).uM (by rw [y_M_tol]; omega)
  obtain ⟨t2, h2, M2, F2⟩ := fR_mark_57_eq (n := n) (m := s_M s) h w1 (by omega) (s_C s) 0 _ zF (by rw [y_C_M, y_C_tol, Nat.zero_add]) (zF_big (by omega)) (by rw [posS_0]; exact M1)
  rw [y_C_M, y_C_tol] at M2
  have w2 : Wf (posS (u_M (u_tol s true) (s_M s + 1)) (s_M s) (s_C s)) := w1.wpos
  obtain ⟨t3, h3, M3, F3⟩ := fR_mark_90_eq (n := n) (m := s_M s) h w2 (by rw [z_posS_M, su_M]; omega) (by rw [z_posS_acks, y_acks_M, y_acks_tol]; exact hA) (s_N s) 0 t2 zF (by rw [z_posS_N, y_N_M, y_N_tol, Nat.zero_add]) (zF_big (by omega)) M2
  rw [z_posS_N, y_N_M, y_N_tol] at M3
  have F : Fr P6 t t3 := (Fr.wI p6 (Fr.wI p6 (Fr.wI p6 (Fr.refl _ _)))).trans (F2.trans F3).1
  have hco : qI t3 6 0 1 = 0 := (F2.trans F3).2
  refine ⟨t3, ?_, M3, F, hco⟩
  rw [← h3]
  refine Eq.trans ?_ h2
  unfold fR_mark fR_mark_18 fR_mark_23
  generalize fR_mark_57 zF = R
  simp (disch := first | assumption | omega | exact b2i_01 _ | exact Or.inl rfl | exact Or.inr rfl) only [rf_0 h, rf_1 h, rf_2 h, rf_3 h, rf_4 h, rf_5 h, rf_6 h, rf_7 h, rf_8 h, rf_9 h, rf_10 h, rf_11 h, rf_12 h, rf_13 h, rf_14 h, rf_15 h, rf_16 h, rf_17 h, rf_18 h, rf_19 h, rf_20 h, rf_21 h, rf_22 h, rf_23 h, rf_24 h, rf_25 h, rf_26 h, rf_27 h, rf_28 h, rf_29 h, rf_30 h, rf_31 h, rf_32 h, rf_33 h, rp_1 h, rp_2 h, rp_7 h, rp_19 h, rp_29 h, rg_1 h, rg_2 h, rg_3 h, rg_4 h, rg_5 h, rg_6 h, rg_7 h, rg_8 h, rg_9 h, rg_10 h, rg_11 h, rg_12 h, rg_13 h, rg_14 h, rg_15 h, rg_16 h, rg_17 h, rg_18 h, rg_19 h, rg_20 h, rg_21 h, rg_22 h, rg_23 h, rg_24 h, rg_25 h, rg_26 h, rg_27 h, rg_28 h, rs_1 h, rs_2 h, rs_3 h, rs_4 h, rs_5 h, rs_6 h, rs_7 h, rs_8 h, rs_9 h, rs_10 h, rs_11 h, rs_12 h, rs_13 h, rs_14 h, rs_15 h, rs_16 h, rs_17 h, rs_18 h, rs_19 h, rs_20 h, rs_21 h, rs_22 h, rs_23 h, rs_24 h, rs_25 h, rs_26 h, rs_27 h, rs_28 h, ro h, rI_uI, rI_uJ, rI_uR, rI_wI, rI_wJ, rJ_uJ, rJ_uI, rJ_uR, rJ_wI, rJ_wJ, rR_uR, rR_uI, rR_uJ, rR_wI, rR_wJ, qI_wI, qI_wJ, qI_uI, qI_uJ, qI_uR, qJ_wJ, qJ_wI, qJ_uI, qJ_uJ, qJ_uR, Option.bind_some, zcV_s, zcI_s, zcL_s, zrI, zrV, zrL, nI_mul8, nI_mul16, nI_mul200, nI_1, eq_self, Nat.reduceEqDiff, and_true, true_and, and_false, false_and, and_self, ite_true, ite_false, ↓reduceIte, Nat.add_zero, if_true, if_false, b2i_t, b2i_f, o2i_s, o2i_n, M.c_f0, M.c_f2, M.c_f7, M.c_f19, M.c_f29, M.r1, M.r2, M.r3, M.r4, M.r5, M.r6, M.r9, M.r11, M.r12, M.r13, M.r14, M.r15, M.r16, M.r17, M.r18, M.r19, M.r20, M.r21, M.r22, M.r23, M.r24, nI_leI, nI_ltI, nI_eq, nI_eq0, nI_eqm1, b2i_eq0, fR_begun_eq h M w, le00, show (3 : Int32) = nI 3 from rfl, show (40 : Int32) = nI 40 from rfl, hb, hM4]
  rfl
end PM
