/-! THE INVARIANT of the law's loop, and one call as a whole -/
def GE (e : pE) (n : Nat) (s : zSt) : Prop := FE e n ∧ KE e ∧ (∀ m, s_M s ≤ m → NE e 5 m) ∧ ∀ c, s_C s ≤ c → NE e 3 c ∧ NE e 4 c
def St (e : pE) (t : pS) (s : zSt) (n : Nat) : Prop := pRf e ∧ Mod t s ∧ Cls e t s ∧ Iv s ∧ GE e n s
def InvW : LI := fun V n q m o => ∃ e t s, V = pv e t ∧ St e t s n ∧ q = pL e 0 0 0 ∧ m = pL e 6 0 0 ∧ o < n ∧ e.2.2.1 o = none ∧ ∃ N f, e.1 o = some (.inl (1, N, .inr (.inl f))) ∧ 0 < N
/-- the names after a call -/
def Xt (e e' : pE) (n n' : Nat) (s' : zSt) : Prop := e'.1 = e.1 ∧ pRf e' ∧ pL e' 0 0 0 = pL e 0 0 0 ∧ pL e' 6 0 0 = pL e 6 0 0 ∧ (∀ a, a < n → e.2.2.1 a = none → e'.2.2.1 a = none) ∧ n ≤ n' ∧ GE e' n' s'
def RG (fR : zV → Nat → Nat → Option zR) (s : zSt) (v : Option Value) (s' : zSt) (k : Int32) : Prop := ∀ (E : pE) (t1 : pS) (n1 : Nat), pRf E → Mod t1 s → RO (fR (pv E t1) n1 (pL E 6 0 0)) E t1 n1 v s' k
def cd (cods : List (String × Int32)) (E : String) (k : Int32) : Prop := E ∈ cods.map (·.1) ∧ (∀ c, (E, c) ∈ cods → c = k) ∧ k ≠ 0
def MC (s s' : zSt) : Prop := s_M s' = s_M s ∧ s_C s' = s_C s
section PW
variable {e e' : pE} {t t' : pS} {s s' : zSt} {n n' : Nat}
theorem pv_o {o : Nat} (h : e.2.2.1 o = none) : pv e t o = e.1 o := by
  unfold pv
  rw [h]
theorem eo_pcell (f : zV) (x : pN) : pcell (f, e.2) t x = pcell e t x := rfl
theorem pv_out {o N : Nat} {f : Nat → Int64} (h : e.2.2.1 o = none) (hf : e.1 o = some (.inl (1, N, .inr (.inl f)))) (v : Int64) : hOut (pv e t) o v = pv (z_up e.1 o (.inl (1, N, .inr (.inl (vp_updL f 0 v)))), e.2) t := by
  unfold hOut
  rw [pv_o h, hf]
  show z_up (pv e t) o (.inl (1, N, .inr (.inl (vp_updL f 0 v)))) = _
  funext a
  show (if a = o then some (.inl (1, N, .inr (.inl (vp_updL f 0 v)))) else pv e t a) = _
  by_cases q : a = o
  · rw [if_pos q, q]
    exact ((pv_o (e := (z_up e.1 o (.inl (1, N, .inr (.inl (vp_updL f 0 v)))), e.2)) h).trans (if_pos rfl)).symm
  · rw [if_neg q]
    unfold pv
    show _ = match e.2.2.1 a with | some x => some (pcell (_, e.2) t x) | none => if a = o then _ else e.1 a
    cases e.2.2.1 a with
    | some x => rfl
    | none => exact (if_neg q).symm
theorem eo_Rf (f : zV) (h : pRf e) : pRf (f, e.2) := h
theorem eo_Cls (f : zV) (g : Cls e t s) : Cls (f, e.2) t s := g
theorem eo_GE (f : zV) (h : GE e n s) : GE (f, e.2) n s := h
theorem lB_0 (g : Cls e t s) : lB (pv e t) (pL e 0 0 0) 5 := ⟨pfl e 0 0 (qI t 0 0) (qJ t 0 0), by
  rw [pv_at ((ClsG.o0 g).2.1 0 (by show 0 < 6; omega))]
  rfl⟩
theorem lB_6 (h : pRf e) : lB (pv e t) (pL e 6 0 0) 6 := ⟨pfl e 6 0 (qI t 6 0) (qJ t 6 0), by
  rw [pv_at (h.2.1 0 (by omega))]
  rfl⟩
theorem thrown_eq (h : pRf e) : fR_thrown (pv e t) n (pL e 6 0 0) = some (.inl (some (.int (qI t 6 0 1))), pv e t, n) := by
  unfold fR_thrown
  simp (disch := first | assumption | omega | exact b2i_01 _ | exact Or.inl rfl | exact Or.inr rfl) only [rf_0 h, rf_1 h, rf_2 h, rf_3 h, rf_4 h, rf_5 h, rf_6 h, rf_7 h, rf_8 h, rf_9 h, rf_10 h, rf_11 h, rf_12 h, rf_13 h, rf_14 h, rf_15 h, rf_16 h, rf_17 h, rf_18 h, rf_19 h, rf_20 h, rf_21 h, rf_22 h, rf_23 h, rf_24 h, rf_25 h, rf_26 h, rf_27 h, rf_28 h, rf_29 h, rf_30 h, rf_31 h, rf_32 h, rf_33 h, rp_1 h, rp_2 h, rp_7 h, rp_19 h, rp_29 h, rg_1 h, rg_2 h, rg_3 h, rg_4 h, rg_5 h, rg_6 h, rg_7 h, rg_8 h, rg_9 h, rg_10 h, rg_11 h, rg_12 h, rg_13 h, rg_14 h, rg_15 h, rg_16 h, rg_17 h, rg_18 h, rg_19 h, rg_20 h, rg_21 h, rg_22 h, rg_23 h, rg_24 h, rg_25 h, rg_26 h, rg_27 h, rg_28 h, rs_1 h, rs_2 h, rs_3 h, rs_4 h, rs_5 h, rs_6 h, rs_7 h, rs_8 h, rs_9 h, rs_10 h, rs_11 h, rs_12 h, rs_13 h, rs_14 h, rs_15 h, rs_16 h, rs_17 h, rs_18 h, rs_19 h, rs_20 h, rs_21 h, rs_22 h, rs_23 h, rs_24 h, rs_25 h, rs_26 h, rs_27 h, rs_28 h, ro h, rI_uI, rI_uJ, rI_uR, rI_wI, rI_wJ, rJ_uJ, rJ_uI, rJ_uR, rJ_wI, rJ_wJ, rR_uR, rR_uI, rR_uJ, rR_wI, rR_wJ, qI_wI, qI_wJ, qI_uI, qI_uJ, qI_uR, qJ_wJ, qJ_wI, qJ_uI, qJ_uJ, qJ_uR, Option.bind_some, zcV_s, zcI_s, zcL_s, zrI, zrV, zrL, nI_mul8, nI_mul16, nI_mul200, nI_1, eq_self, Nat.reduceEqDiff, and_true, true_and, and_false, false_and, and_self, ite_true, ite_false, ↓reduceIte, Nat.add_zero, if_true, if_false, b2i_t, b2i_f, o2i_s, o2i_n, nI_leI, nI_ltI, nI_eq, nI_eq0, nI_eqm1, b2i_eq0]
theorem GE.mono (h : GE e n s) (hn : n ≤ n') : GE e n' s := ⟨fun a x hx => by have := h.1 a x hx; omega, h.2⟩
theorem op_of {ρ : Type} {fB fR : zV → Nat → Nat → Option zR} {cods : List (String × Int32)} {ty : Option Value → Prop} {con : ρ → Option Value} {lg : ρ → Int64} (u : Option Value → Int64) (H : ∀ e t s n, St e t s n → (∃ v r e' n' s', (∃ t', fB (pv e t) n (pL e 0 0 0) = some (.inl v, pv e' t', n') ∧ Cls e' t' s' ∧ Fr PC t t') ∧ ty v ∧ u v = lg r ∧ Iv s' ∧ Xt e e' n n' s' ∧ RG fR s (con r) s' 0) ∨ (∃ E k r, CO (fB (pv e t) n (pL e 0 0 0)) e t n (.inr E) s ∧ cd cods E k ∧ RG fR s (con r) s k)) : LOp InvW fB fR cods ty (fun w1 o v => hOut w1.2.1 o (u v)) con lg := by
  intro V n q m o hI
  obtain ⟨e, t, s, rfl, hS, rfl, rfl, ho, hon, N, f, hf, hN⟩ := hI
  have hS2 := hS
  obtain ⟨hR, hM, g, hv, hG⟩ := hS2
  refine ⟨lB_0 g, ?_⟩
  rcases H e t s n hS with ⟨v, r, e', n', s', ⟨t', h1, g1, F1⟩, hty, hu, hv', X, hRG⟩ | ⟨E, k, r, ⟨t', h1, g1, F1⟩, hc, hRG⟩
  · obtain ⟨x1, x2, x3, x4, x5, x6, x7⟩ := X
    have hon' := x5 o ho hon
    have hf' : e'.1 o = some (.inl (1, N, .inr (.inl f))) := by rw [x1]; exact hf
    refine ⟨_, h1, fun v' hv' => ?_, fun v' hv' => ⟨N, f, ?_, hN⟩, fun E hE => (by cases hE), fun k V1 n1 hP => ?_⟩
    · cases hv'; exact hty
    · show pv e' t' o = _
      rw [pv_o hon']; exact hf'
    · rcases hP with ⟨v1, e1, hk, hn1, hV1⟩ | ⟨E, c, e1, _⟩
      · cases e1
        have hn1 : n1 = n' := hn1
        have hV1 : V1 = hOut (pv e' t') o (u v) := hV1
        rw [hV1, hn1, hk]
        show lB (hOut (pv e' t') o (u v)) (pL e 6 0 0) 6 ∧ ∃ (r : ρ) (V2 : zV) (n2 : Nat), fR (hOut (pv e' t') o (u v)) n' (pL e 6 0 0) = some (.inl (con r), V2, n2) ∧ lB V2 (pL e 6 0 0) 6 ∧ fR_thrown V2 n2 (pL e 6 0 0) = some (.inl (some (.int 0)), V2, n2) ∧ InvW V2 n2 (pL e 0 0 0) (pL e 6 0 0) o ∧ ∃ f, lO V2 o f ∧ ((0 : Int32) = 0 → f 0 = lg r)
        rw [pv_out hon' hf']
        have hRE : pRf (z_up e'.1 o (.inl (1, N, .inr (.inl (vp_updL f 0 (u v))))), e'.2) := eo_Rf _ x2
        have gE := eo_Cls (z_up e'.1 o (.inl (1, N, .inr (.inl (vp_updL f 0 (u v)))))) g1
        have GEE := eo_GE (z_up e'.1 o (.inl (1, N, .inr (.inl (vp_updL f 0 (u v)))))) x7
        have y3 : pL (z_up e'.1 o (.inl (1, N, .inr (.inl (vp_updL f 0 (u v))))), e'.2) 0 0 0 = pL e 0 0 0 := x3
        have y4 : pL (z_up e'.1 o (.inl (1, N, .inr (.inl (vp_updL f 0 (u v))))), e'.2) 6 0 0 = pL e 6 0 0 := x4
        have yo : (z_up e'.1 o (.inl (1, N, .inr (.inl (vp_updL f 0 (u v))))), e'.2).2.2.1 o = none := hon'
        have yf : (z_up e'.1 o (.inl (1, N, .inr (.inl (vp_updL f 0 (u v))))), e'.2).1 o = some (.inl (1, N, .inr (.inl (vp_updL f 0 (u v))))) := if_pos rfl
        generalize ((z_up e'.1 o (.inl (1, N, .inr (.inl (vp_updL f 0 (u v))))), e'.2) : pE) = E at hRE gE GEE y3 y4 yo yf ⊢
        obtain ⟨t2, r1, M2, F2, k2⟩ := hRG E t' n' hRE (hM.frC F1)
        rw [← y4, ← y3]
        refine ⟨lB_6 hRE, r, pv E t2, n', r1, lB_6 hRE, ?_, ?_, vp_updL f 0 (u v), ⟨N, ?_, hN⟩, fun _ => ?_⟩
        · rw [thrown_eq hRE, k2]
        · exact ⟨E, t2, s', rfl, ⟨hRE, M2, gE.fr6 F2, hv', GEE⟩, rfl, rfl, by omega, yo, N, _, yf, hN⟩
        · rw [pv_o yo]; exact yf
        · rw [← hu]
          exact if_pos rfl
      · cases e1
  · refine ⟨_, h1, fun v' hv' => (by cases hv'), fun v' hv' => (by cases hv'), fun E' hE => ?_, fun k1 V1 n1 hP => ?_⟩
    · cases hE; exact hc.1
    · rcases hP with ⟨v1, e1, _⟩ | ⟨E', c, e1, hm, rfl, rfl, hn⟩
      · cases e1
      · cases e1
        have hck := hc.2.1 _ hm
        show lB (pv e t') (pL e 6 0 0) 6 ∧ ∃ (r : ρ) (V2 : zV) (n2 : Nat), fR (pv e t') n1 (pL e 6 0 0) = some (.inl (con r), V2, n2) ∧ lB V2 (pL e 6 0 0) 6 ∧ fR_thrown V2 n2 (pL e 6 0 0) = some (.inl (some (.int _)), V2, n2) ∧ InvW V2 n2 (pL e 0 0 0) (pL e 6 0 0) o ∧ ∃ f, lO V2 o f ∧ (_ = 0 → f 0 = lg r)
        obtain ⟨t2, r1, M2, F2, k2⟩ := hRG e t' n1 hR (hM.frC F1)
        refine ⟨lB_6 hR, r, pv e t2, n1, r1, lB_6 hR, ?_, ?_, f, ⟨N, ?_, hN⟩, fun h0 => ?_⟩
        · rw [thrown_eq hR, k2, hck]
        · exact ⟨e, t2, s, rfl, ⟨hR, M2, g1.fr6 F2, hv, hG.mono hn⟩, rfl, rfl, by omega, hon, N, f, hf, hN⟩
        · rw [pv_o hon]; exact hf
        · rw [hck] at h0
          exact absurd h0 hc.2.2
theorem op_void {fB fR : zV → Nat → Nat → Option zR} {cods : List (String × Int32)} (H : ∀ e t s n, St e t s n → (∃ s', CO (fB (pv e t) n (pL e 0 0 0)) e t n (.inl none) s' ∧ Iv s' ∧ MC s s' ∧ RG fR s none s' 0) ∨ (∃ E k, CO (fB (pv e t) n (pL e 0 0 0)) e t n (.inr E) s ∧ cd cods E k ∧ RG fR s none s k)) : LVoid InvW fB fR cods := by
  intro V n q m o hI
  obtain ⟨e, t, s, rfl, hS, rfl, rfl, ho, hon, N, f, hf, hN⟩ := hI
  have hS2 := hS
  obtain ⟨hR, hM, g, hv, hG⟩ := hS2
  refine ⟨lB_0 g, ?_⟩
  rcases H e t s n hS with ⟨s', ⟨t', h1, g1, F1⟩, hv', hmc, hRG⟩ | ⟨E, k, ⟨t', h1, g1, F1⟩, hc, hRG⟩
  · refine ⟨_, h1, fun v' hv' => by cases hv'; rfl, fun E hE => (by cases hE), fun k V1 n1 hP => ?_⟩
    rcases hP with ⟨v1, e1, hk, hn1, hV1⟩ | ⟨E, c, e1, _⟩
    · cases e1
      have hn1 : n1 = n := hn1
      have hV1 : V1 = pv e t' := hV1
      rw [hV1, hn1, hk]
      show lB (pv e t') (pL e 6 0 0) 6 ∧ ∃ (V2 : zV) (n2 : Nat), fR (pv e t') n (pL e 6 0 0) = some (.inl none, V2, n2) ∧ lB V2 (pL e 6 0 0) 6 ∧ fR_thrown V2 n2 (pL e 6 0 0) = some (.inl (some (.int 0)), V2, n2) ∧ InvW V2 n2 (pL e 0 0 0) (pL e 6 0 0) o
      obtain ⟨t2, r1, M2, F2, k2⟩ := hRG e t' n hR (hM.frC F1)
      refine ⟨lB_6 hR, pv e t2, n, r1, lB_6 hR, ?_, ?_⟩
      · rw [thrown_eq hR, k2]
      · refine ⟨e, t2, s', rfl, ⟨hR, M2, g1.fr6 F2, hv', ?_⟩, rfl, rfl, ho, hon, N, f, hf, hN⟩
        unfold GE
        rw [hmc.1, hmc.2]
        exact hG
    · cases e1
  · refine ⟨_, h1, fun v' hv' => (by cases hv'), fun E' hE => ?_, fun k1 V1 n1 hP => ?_⟩
    · cases hE; exact hc.1
    · rcases hP with ⟨v1, e1, _⟩ | ⟨E', c, e1, hm, rfl, rfl, hn⟩
      · cases e1
      · cases e1
        have hck := hc.2.1 _ hm
        obtain ⟨t2, r1, M2, F2, k2⟩ := hRG e t' n1 hR (hM.frC F1)
        refine ⟨lB_6 hR, pv e t2, n1, r1, lB_6 hR, ?_, ?_⟩
        · rw [thrown_eq hR, k2, hck]
        · exact ⟨e, t2, s, rfl, ⟨hR, M2, g1.fr6 F2, hv, hG.mono hn⟩, rfl, rfl, by omega, hon, N, f, hf, hN⟩
theorem xt_same (hR : pRf e) (hG : GE e n s) (hmc : MC s s') : Xt e e n n s' := ⟨rfl, hR, rfl, rfl, fun _ _ h => h, Nat.le_refl _, by
  unfold GE
  rw [hmc.1, hmc.2]
  exact hG⟩
theorem op_same {ρ : Type} {fB fR : zV → Nat → Nat → Option zR} {cods : List (String × Int32)} {ty : Option Value → Prop} {con : ρ → Option Value} {lg : ρ → Int64} (u : Option Value → Int64) (H : ∀ e t s n, St e t s n → (∃ v r s', CO (fB (pv e t) n (pL e 0 0 0)) e t n (.inl v) s' ∧ ty v ∧ u v = lg r ∧ Iv s' ∧ MC s s' ∧ RG fR s (con r) s' 0) ∨ (∃ E k r, CO (fB (pv e t) n (pL e 0 0 0)) e t n (.inr E) s ∧ cd cods E k ∧ RG fR s (con r) s k)) : LOp InvW fB fR cods ty (fun w1 o v => hOut w1.2.1 o (u v)) con lg := op_of u fun e t s n S => by
  rcases H e t s n S with ⟨v, r, s', h1, h2, h3, h4, h5, h6⟩ | h
  · exact Or.inl ⟨v, r, e, n, s', h1, h2, h3, h4, xt_same S.1 S.2.2.2.2 h5, h6⟩
  · exact Or.inr h
theorem op_int {fB fR : zV → Nat → Nat → Option zR} {cods : List (String × Int32)} (H : ∀ e t s n, St e t s n → (∃ i s', CO (fB (pv e t) n (pL e 0 0 0)) e t n (.inl (some (.int i))) s' ∧ Iv s' ∧ MC s s' ∧ RG fR s (some (.int i)) s' 0) ∨ (∃ E k i, CO (fB (pv e t) n (pL e 0 0 0)) e t n (.inr E) s ∧ cd cods E k ∧ RG fR s (some (.int i)) s k)) : LInt InvW fB fR cods := op_same hlong fun e t s n S => by
  rcases H e t s n S with ⟨i, s', h1, h4, h5, h6⟩ | h
  · exact Or.inl ⟨_, i, s', h1, ⟨i, rfl⟩, rfl, h4, h5, h6⟩
  · exact Or.inr h
theorem op_long {fB fR : zV → Nat → Nat → Option zR} {cods : List (String × Int32)} (H : ∀ e t s n, St e t s n → (∃ i s', CO (fB (pv e t) n (pL e 0 0 0)) e t n (.inl (some (.long i))) s' ∧ Iv s' ∧ MC s s' ∧ RG fR s (some (.long i)) s' 0) ∨ (∃ E k i, CO (fB (pv e t) n (pL e 0 0 0)) e t n (.inr E) s ∧ cd cods E k ∧ RG fR s (some (.long i)) s k)) : LLong InvW fB fR cods := op_same hlong fun e t s n S => by
  rcases H e t s n S with ⟨i, s', h1, h4, h5, h6⟩ | h
  · exact Or.inl ⟨_, i, s', h1, ⟨i, rfl⟩, rfl, h4, h5, h6⟩
  · exact Or.inr h
theorem op_bool {fB fR : zV → Nat → Nat → Option zR} {cods : List (String × Int32)} (H : ∀ e t s n, St e t s n → (∃ i s', CO (fB (pv e t) n (pL e 0 0 0)) e t n (.inl (some (.int i))) s' ∧ Iv s' ∧ MC s s' ∧ RG fR s (some (.int i)) s' 0) ∨ (∃ E k i, CO (fB (pv e t) n (pL e 0 0 0)) e t n (.inr E) s ∧ cd cods E k ∧ RG fR s (some (.int i)) s k)) : LBool InvW fB fR cods := op_same hbool fun e t s n S => by
  rcases H e t s n S with ⟨i, s', h1, h4, h5, h6⟩ | h
  · exact Or.inl ⟨_, i, s', h1, ⟨i, rfl⟩, rfl, h4, h5, h6⟩
  · exact Or.inr h
theorem bad_or (x : Int32) {N : Nat} (hN : N < 2 ^ 31) : bad x N ∨ ∃ j, j < N ∧ x = nI j := by
  by_cases h0 : x < 0
  · exact Or.inl (Or.inl h0)
  · obtain ⟨j, hj, rfl⟩ := nI_of h0
    by_cases h1 : N ≤ j
    · exact Or.inl (Or.inr (nI_le h1 hj))
    · exact Or.inr ⟨j, by omega, rfl⟩
theorem MC.rfl' : MC s s := ⟨rfl, rfl⟩
end PW
theorem cI1 : cd [("java/lang/IndexOutOfBoundsException", 1)] "java/lang/IndexOutOfBoundsException" 1 := ⟨by simp, fun c hc => by simpa using hc, by decide⟩
theorem cI2 : cd [("java/lang/IndexOutOfBoundsException", 1), ("java/lang/IllegalStateException", 2)] "java/lang/IndexOutOfBoundsException" 1 := ⟨by simp, fun c hc => by simpa using hc, by decide⟩
theorem cS2 : cd [("java/lang/IndexOutOfBoundsException", 1), ("java/lang/IllegalStateException", 2)] "java/lang/IllegalStateException" 2 := ⟨by simp, fun c hc => by simpa using hc, by decide⟩
theorem cI3 : cd [("java/lang/IndexOutOfBoundsException", 1), ("java/lang/IllegalStateException", 2), ("java/lang/IllegalArgumentException", 3)] "java/lang/IndexOutOfBoundsException" 1 := ⟨by simp, fun c hc => by simpa using hc, by decide⟩
theorem cS3 : cd [("java/lang/IndexOutOfBoundsException", 1), ("java/lang/IllegalStateException", 2), ("java/lang/IllegalArgumentException", 3)] "java/lang/IllegalStateException" 2 := ⟨by simp, fun c hc => by simpa using hc, by decide⟩
theorem cA3 : cd [("java/lang/IndexOutOfBoundsException", 1), ("java/lang/IllegalStateException", 2), ("java/lang/IllegalArgumentException", 3)] "java/lang/IllegalArgumentException" 3 := ⟨by simp, fun c hc => by simpa using hc, by decide⟩
theorem cS4 : cd [("java/lang/IllegalStateException", 1)] "java/lang/IllegalStateException" 1 := ⟨by simp, fun c hc => by simpa using hc, by decide⟩
theorem cA5 : cd [("java/lang/IllegalArgumentException", 1)] "java/lang/IllegalArgumentException" 1 := ⟨by simp, fun c hc => by simpa using hc, by decide⟩
theorem cI6 : cd [("java/lang/IndexOutOfBoundsException", 1), ("java/lang/IllegalArgumentException", 2)] "java/lang/IndexOutOfBoundsException" 1 := ⟨by simp, fun c hc => by simpa using hc, by decide⟩
theorem cA6 : cd [("java/lang/IndexOutOfBoundsException", 1), ("java/lang/IllegalArgumentException", 2)] "java/lang/IllegalArgumentException" 2 := ⟨by simp, fun c hc => by simpa using hc, by decide⟩
