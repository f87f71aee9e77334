/-! the class's exact -/
abbrev cAi : Type := (Nat → Int64) × (Nat → Int32)
def ciF (s : zSt) (m : Nat) (A : cAi) (p : Int64 × Int32) (c : Nat) : Int64 × Int32 := match s_fr s c with
  | none => (p.1 + sumL ((s_log s c).take (s_pos s m c)) 0, p.2 + nI (s_pos s m c))
  | some k => (p.1 + (3 * A.1 k + lN k * (A.2 k).toInt64), p.2 + A.2 k)
def ciT (s : zSt) (m : Nat) (A : cAi) (x : Nat) : cAi := (fu A.1 x ((ins s x).foldl (ciF s m A) (0, 0)).1, fu A.2 x ((ins s x).foldl (ciF s m A) (0, 0)).2)
def ciI (s : zSt) (m : Nat) : Nat → cAi → cAi
  | 0, A => A
  | d + 1, A => ciI s m d ((List.range' 0 (s_N s)).foldl (ciT s m) A)
def ciZ (k : Nat) (A : cAi) : cAi := (fun x => if x < k then 0 else A.1 x, fun x => if x < k then 0 else A.2 x)
def exI (s : zSt) (m : Nat) (A : cAi) (x : Nat) : Bool := s_kSum s m x == A.1 x && s_kRows s m x == A.2 x
def exactI (s : zSt) (m : Nat) (A : cAi) : Bool := (List.range' 0 (s_N s)).all (exI s m (ciI s m (s_N s) (ciZ (s_N s) A)))
def CB (t : pS) (A : cAi) : Prop := rJ t 0 0 4 = A.1 ∧ rI t 0 0 5 = A.2
section PO
variable {e : pE} {t t' : pS} {s : zSt} {n : Nat}
theorem CB.v1 {A : cAi} (h : CB t A) (v : Nat → Int64) : CB (uJ t 0 0 4 v) (v, A.2) := ⟨by rw [rJ_uJ, if_pos ⟨rfl, rfl, rfl⟩], by rw [rI_uJ]; exact h.2⟩
theorem CB.v2 {A : cAi} (h : CB t A) (v : Nat → Int32) : CB (uI t 0 0 5 v) (A.1, v) := ⟨by rw [rJ_uI]; exact h.1, by rw [rI_uI, if_pos ⟨rfl, rfl, rfl⟩]⟩
theorem Cls.v4 (g : Cls e t s) (v : Nat → Int64) : Cls e (uJ t 0 0 4 v) s := by
  have hs : ∀ k i, k ≠ 0 → same t (uJ t 0 0 4 v) k i := fun k i h => PO.ne (Fr.uJ (po 0 0) (Fr.refl _ _)) h
  exact ⟨ClsG.E g, (ClsG.R g).fr rfl (fun _ => rfl), (ClsG.B g).fr rfl, (ClsG.A g).fr (hs 1 0 (by decide)), (ClsG.T g).fr (fun x => hs 2 x (by decide)), (ClsG.C g).fr (fun c f _ => by rw [(hs 3 c (by decide)).1]) (fun c f _ => by rw [(hs 4 c (by decide)).1]), (ClsG.S g).fr (fun c => hs 3 c (by decide)), (ClsG.L g).fr (fun c => hs 4 c (by decide)), (ClsG.M g).fr (fun m => hs 5 m (by decide))⟩
theorem Cls.v5 (g : Cls e t s) (v : Nat → Int32) : Cls e (uI t 0 0 5 v) s := by
  have hs : ∀ k i, k ≠ 0 → same t (uI t 0 0 5 v) k i := fun k i h => PO.ne (Fr.uI (po 0 0) (Fr.refl _ _)) h
  exact ⟨ClsG.E g, (ClsG.R g).fr rfl (fun _ => rfl), (ClsG.B g).fr rfl, (ClsG.A g).fr (hs 1 0 (by decide)), (ClsG.T g).fr (fun x => hs 2 x (by decide)), (ClsG.C g).fr (fun c f _ => by rw [(hs 3 c (by decide)).1]) (fun c f _ => by rw [(hs 4 c (by decide)).1]), (ClsG.S g).fr (fun c => hs 3 c (by decide)), (ClsG.L g).fr (fun c => hs 4 c (by decide)), (ClsG.M g).fr (fun m => hs 5 m (by decide))⟩
theorem fr45 {v : Nat → Int64} {v' : Nat → Int32} : Fr PC t (uI (uJ t 0 0 4 v) 0 0 5 v') := (Fr.uI (po 0 0) (Fr.uJ (po 0 0) (Fr.refl _ _))).c (by decide)
theorem ci_0 (g : Cls e t s) (w : Wf s) {A : cAi} (hQ : CB t A) {x f : Nat} (hx : x < s_N s) (m : Int32) (a : Int64) (b : Int32) : fB_carryInto_8 (f + 1) (pv e t) n (pL e 0 0 0) (some (pL e 2 x 0)) m a b (nI (ins s x).length) = some (.inl none, pv e (uI (uJ t 0 0 4 (fu A.1 x a)) 0 0 5 (fu A.2 x b)), n) := by
  have hN : s_N s < 2 ^ 31 := by have := w.N8; omega
  have o0 := ClsG.o0 g
  have o2 := ClsG.o2 g hx
  obtain ⟨a0, a1, ar⟩ := ClsG.T g x hx
  unfold fB_carryInto_8
  generalize fB_carryInto_8 f = R
  rw [f2_3 o2, Option.bind_some, a1, if_pos (Int32.le_refl _), f0_4 o0, Option.bind_some, f2_0 o2, Option.bind_some, a0, s0_4 o0 hN hx, Option.bind_some, f0_5 o0, Option.bind_some, f2_0 o2, Option.bind_some, show qI (uJ t 0 0 4 (vp_updL (rJ t 0 0 4) x a)) 2 x 0 = qI t 2 x 0 from rfl, a0, s0_5 o0 hN hx, Option.bind_some, upd_fu, updL_fu, hQ.1, rI_uJ, hQ.2]
  rfl
theorem ci_s (g : Cls e t s) (w : Wf s) {A : cAi} {x c m i f : Nat} (hx : x < s_N s) (hm : m < s_M s) (hi : (ins s x)[i]? = some c) (a : Int64) (b : Int32) (hQ : CB t A) : fB_carryInto_8 (f + 1) (pv e t) n (pL e 0 0 0) (some (pL e 2 x 0)) (nI m) a b (nI i) = fB_carryInto_8 f (pv e t) n (pL e 0 0 0) (some (pL e 2 x 0)) (nI m) (ciF s m A (a, b) c).1 (ciF s m A (a, b) c).2 (nI (i + 1)) := by
  have hN8 := w.N8; have hM := w.M
  have hN : s_N s < 2 ^ 31 := by omega
  have o0 := ClsG.o0 g
  have o2 := ClsG.o2 g hx
  have hil := (List.getElem?_eq_some_iff.mp hi).1
  have hl16 := ins_le w x
  have hc := (mem_ins.mp (List.mem_of_getElem? hi)).1
  obtain ⟨a0, a1, ar⟩ := ClsG.T g x hx
  have hri := ClsG.ri g hx hi
  have k0 := ClsG.fc0 g hc
  have zi := zinst_ch (t := t) (ClsG.E g) hc 1
  generalize hR : fB_carryInto_8 f = R
  unfold fB_carryInto_8 fB_carryInto_127
  rw [hR, f2_3 o2, Option.bind_some, a1, if_neg (by rw [nI_leI (by omega) (by omega)]; omega), f2_1 o2, Option.bind_some, g2_1 o2 (show i < 16 by omega), Option.bind_some, hri, k0, Option.bind_some, zi, Option.bind_some]
  cases hf : s_fr s c with
  | none =>
    have o3 := ClsG.o3 g hc hf
    have S := ClsG.S g c hc hf
    have p1 : rI t 3 c 2 m = nI (s_pos s m c) := S.2.2.2.2.2.2.2.1 m hm
    have p2 : rJ t 3 c 3 m = sumL ((s_log s c).take (s_pos s m c)) 0 := S.2.2.2.2.2.2.2.2.1 m hm
    rw [if_neg (by decide), chK_n hf, b3 o3, Option.bind_some, f3_6 o3, Option.bind_some, g3_3 o3 (show m < 40 by omega), Option.bind_some, f3_5 o3, Option.bind_some, g3_2 o3 (show m < 40 by omega), Option.bind_some, p1, p2, nI_1]
    unfold ciF
    rw [hf]
  | some k =>
    have hk := w.fr hc hf
    rw [if_pos (by simp), o2i_s, if_neg (nI_nn (by omega)), f0_0 o0, Option.bind_some, a0_1 o0, Option.bind_some, if_neg (by rw [nI_leI (by omega) (by omega)]; omega), f0_4 o0, Option.bind_some, g0_4 o0 hN hk, Option.bind_some, f0_5 o0, Option.bind_some, g0_5 o0 hN hk, Option.bind_some, Option.bind_some, g0_5 o0 hN hk, Option.bind_some, nI_l (show k < 2 ^ 31 by omega), hQ.1, hQ.2, nI_1]
    unfold ciF
    rw [hf]
theorem fB_carryInto_8_eq (g : Cls e t s) (w : Wf s) {A : cAi} (hQ : CB t A) {x m : Nat} (hx : x < s_N s) (hm : m < s_M s) : ∀ (r p : List Nat) (z : Int64 × Int32) (f : Nat), ins s x = p ++ r → r.length < f → fB_carryInto_8 f (pv e t) n (pL e 0 0 0) (some (pL e 2 x 0)) (nI m) z.1 z.2 (nI p.length) = some (.inl none, pv e (uI (uJ t 0 0 4 (fu A.1 x (r.foldl (ciF s m A) z).1)) 0 0 5 (fu A.2 x (r.foldl (ciF s m A) z).2)), n) := by
  intro r
  induction r with
  | nil =>
    intro p z f hp hf
    obtain ⟨f, rfl⟩ : ∃ g, f = g + 1 := ⟨f - 1, by omega⟩
    have hl : p.length = (ins s x).length := by rw [hp, List.append_nil]
    rw [hl, ci_0 g w hQ hx]
    rfl
  | cons c r ih =>
    intro p z f hp hf
    obtain ⟨f, rfl⟩ : ∃ g, f = g + 1 := ⟨f - 1, by omega⟩
    rw [List.length_cons] at hf
    rw [ci_s g w hx hm (getE hp) z.1 z.2 hQ]
    have := ih (p ++ [c]) (ciF s m A (z.1, z.2) c) f (by rw [hp, List.append_assoc]; rfl) (by omega)
    rw [List.length_append, List.length_singleton] at this
    rw [this]
    rfl
theorem fB_carryInto_eq (g : Cls e t s) (w : Wf s) {A : cAi} (hQ : CB t A) {x m : Nat} (hx : x < s_N s) (hm : m < s_M s) : ∃ t', fB_carryInto (pv e t) n (pL e 0 0 0) (some (pL e 2 x 0)) (nI m) = some (.inl none, pv e t', n) ∧ Cls e t' s ∧ CB t' (ciT s m A x) ∧ Fr PC t t' := by
  have h1 := fB_carryInto_8_eq (n := n) g w hQ hx hm (ins s x) [] (0, 0) zF rfl (zF_big (by have := ins_le w x; omega))
  refine ⟨uI (uJ t 0 0 4 (fu A.1 x ((ins s x).foldl (ciF s m A) (0, 0)).1)) 0 0 5 (fu A.2 x ((ins s x).foldl (ciF s m A) (0, 0)).2), ?_, (g.v4 _).v5 _, (hQ.v1 _).v2 _, fr45⟩
  rw [← h1]
  unfold fB_carryInto
  generalize fB_carryInto_8 zF = R
  rfl
theorem fB_carryAlone_44_eq (w : Wf s) {m : Nat} (hm : m < s_M s) (K : zV → Nat → Nat → Int32 → Int32 → Option zR) (x2 : Int32) : ∀ (d c : Nat) (A : cAi) (t : pS) (f : Nat), c + d = s_N s → d < f → Cls e t s → CB t A → ∃ t', fB_carryAlone_44 K f (pv e t) n (pL e 0 0 0) (nI m) x2 (nI c) = K (pv e t') n (pL e 0 0 0) (nI m) (x2 + 1) ∧ Cls e t' s ∧ CB t' ((List.range' c d).foldl (ciT s m) A) ∧ Fr PC t t' := by
  have hN8 := w.N8
  have hN : s_N s < 2 ^ 31 := by omega
  intro d
  induction d with
  | zero =>
    intro c A t f hc hf g hQ
    obtain ⟨f, rfl⟩ : ∃ g, f = g + 1 := ⟨f - 1, by omega⟩
    refine ⟨t, ?_, g, hQ, Fr.refl _ _⟩
    unfold fB_carryAlone_44
    rw [f0_0 (ClsG.o0 g), Option.bind_some, a0_1 (ClsG.o0 g), Option.bind_some, if_pos (by rw [nI_leI (by omega) (by omega)]; omega)]
  | succ d ih =>
    intro c A t f hc hf g hQ
    obtain ⟨f, rfl⟩ : ∃ g, f = g + 1 := ⟨f - 1, by omega⟩
    have hcN : c < s_N s := by omega
    obtain ⟨t1, h1, g1, Q1, F1⟩ := fB_carryInto_eq (n := n) g w hQ hcN hm
    obtain ⟨t2, h2, g2, Q2, F2⟩ := ih (c + 1) _ t1 f (by omega) (by omega) g1 Q1
    rw [List.range'_succ, List.foldl_cons]
    refine ⟨t2, ?_, g2, Q2, F1.trans F2⟩
    rw [← h2]
    generalize hR : fB_carryAlone_44 K f = R
    unfold fB_carryAlone_44
    have o0 := ClsG.o0 g
    rw [hR, f0_0 o0, Option.bind_some, a0_1 o0, Option.bind_some, if_neg (by rw [nI_leI (by omega) (by omega)]; omega), Option.bind_some, g0_1 o0 hN hcN, Option.bind_some, ClsG.r1 g hcN, b0 o0, Option.bind_some, h1, zcV_s, nI_1]
theorem fB_carryAlone_33_eq (w : Wf s) {m : Nat} (hm : m < s_M s) : ∀ (d c : Nat) (A : cAi) (t : pS) (f : Nat), c + d = s_N s → d < f → Cls e t s → CB t A → ∃ t', fB_carryAlone_33 f (pv e t) n (pL e 0 0 0) (nI m) (nI c) = some (.inl none, pv e t', n) ∧ Cls e t' s ∧ CB t' (ciI s m d A) ∧ Fr PC t t' := by
  have hN8 := w.N8
  intro d
  induction d with
  | zero =>
    intro c A t f hc hf g hQ
    obtain ⟨f, rfl⟩ : ∃ g, f = g + 1 := ⟨f - 1, by omega⟩
    refine ⟨t, ?_, g, hQ, Fr.refl _ _⟩
    unfold fB_carryAlone_33
    generalize fB_carryAlone_44 (fB_carryAlone_33 f) zF = R
    rw [f0_0 (ClsG.o0 g), Option.bind_some, a0_1 (ClsG.o0 g), Option.bind_some, if_pos (by rw [nI_leI (by omega) (by omega)]; omega)]
    rfl
  | succ d ih =>
    intro c A t f hc hf g hQ
    obtain ⟨f, rfl⟩ : ∃ g, f = g + 1 := ⟨f - 1, by omega⟩
    obtain ⟨t1, h1, g1, Q1, F1⟩ := fB_carryAlone_44_eq (n := n) w hm (fB_carryAlone_33 f) (nI c) (s_N s) 0 A t zF (Nat.zero_add _) (zF_big (by omega)) g hQ
    have h1' : fB_carryAlone_44 (fB_carryAlone_33 f) zF (pv e t) n (pL e 0 0 0) (nI m) (nI c) 0 = fB_carryAlone_33 f (pv e t1) n (pL e 0 0 0) (nI m) (nI c + 1) := h1
    obtain ⟨t2, h2, g2, Q2, F2⟩ := ih (c + 1) _ t1 f (by omega) (by omega) g1 Q1
    refine ⟨t2, ?_, g2, Q2, F1.trans F2⟩
    rw [← h2, ← nI_1, ← h1']
    have o0 := ClsG.o0 g
    generalize hR : fB_carryAlone_44 (fB_carryAlone_33 f) zF = R
    unfold fB_carryAlone_33
    rw [hR, f0_0 o0, Option.bind_some, a0_1 o0, Option.bind_some, if_neg (by rw [nI_leI (by omega) (by omega)]; omega)]
theorem ciZ_s (A : cAi) (c : Nat) : (fu (ciZ c A).1 c 0, fu (ciZ c A).2 c 0) = ciZ (c + 1) A := by
  unfold ciZ
  dsimp only
  rw [fu_lt (fun _ => (0 : Int64)) A.1, fu_lt (fun _ => (0 : Int32)) A.2]
theorem fB_carryAlone_2_eq (w : Wf s) (m : Int32) (A : cAi) : ∀ (d c : Nat) (t : pS) (f : Nat), c + d = s_N s → d < f → Cls e t s → CB t (ciZ c A) → ∃ t', fB_carryAlone_2 f (pv e t) n (pL e 0 0 0) m (nI c) = fB_carryAlone_33 zF (pv e t') n (pL e 0 0 0) m 0 ∧ Cls e t' s ∧ CB t' (ciZ (s_N s) A) ∧ Fr PC t t' := by
  have hN8 := w.N8
  have hN : s_N s < 2 ^ 31 := by omega
  intro d
  induction d with
  | zero =>
    intro c t f hc hf g hQ
    obtain ⟨f, rfl⟩ : ∃ g, f = g + 1 := ⟨f - 1, by omega⟩
    obtain rfl : c = s_N s := by omega
    refine ⟨t, ?_, g, hQ, Fr.refl _ _⟩
    unfold fB_carryAlone_2
    generalize fB_carryAlone_33 zF = R
    rw [f0_0 (ClsG.o0 g), Option.bind_some, a0_1 (ClsG.o0 g), Option.bind_some, if_pos (Int32.le_refl _)]
  | succ d ih =>
    intro c t f hc hf g hQ
    obtain ⟨f, rfl⟩ : ∃ g, f = g + 1 := ⟨f - 1, by omega⟩
    have hcN : c < s_N s := by omega
    have o0 := ClsG.o0 g
    have Q1 := (hQ.v1 (fu (ciZ c A).1 c 0)).v2 (fu (ciZ c A).2 c 0)
    rw [ciZ_s] at Q1
    obtain ⟨t2, h2, g2, Q2, F2⟩ := ih (c + 1) _ f (by omega) (by omega) ((g.v4 _).v5 _) Q1
    refine ⟨t2, ?_, g2, Q2, fr45.trans F2⟩
    rw [← h2]
    generalize hR : fB_carryAlone_2 f = R
    unfold fB_carryAlone_2
    rw [hR]
    generalize fB_carryAlone_33 zF = R2
    rw [f0_0 o0, Option.bind_some, a0_1 o0, Option.bind_some, if_neg (by rw [nI_leI (by omega) (by omega)]; omega), f0_4 o0, Option.bind_some, s0_4 o0 hN hcN, Option.bind_some, f0_5 o0, Option.bind_some, s0_5 o0 hN hcN, Option.bind_some, upd_fu, updL_fu, hQ.1, rI_uJ, hQ.2, nI_1]
theorem fB_exact_13_eq (g : Cls e t s) (w : Wf s) {A : cAi} (hQ : CB t A) {m : Nat} (hm : m < s_M s) : ∀ (d c : Nat) (f : Nat), c + d = s_N s → d < f → fB_exact_13 f (pv e t) n (pL e 0 0 0) (some (pL e 5 m 0)) (nI c) = some (.inl (some (.int (b2i ((List.range' c d).all (exI s m A))))), pv e t, n) := by
  have hN8 := w.N8
  have hN : s_N s < 2 ^ 31 := by omega
  have o0 := ClsG.o0 g
  have o5 := ClsG.o5 g hm
  obtain ⟨m0, m1, m2, m3, m4, m5, m6, m7, m8⟩ := ClsG.M g m hm
  intro d
  induction d with
  | zero =>
    intro c f hc hf
    obtain ⟨f, rfl⟩ : ∃ g, f = g + 1 := ⟨f - 1, by omega⟩
    unfold fB_exact_13
    rw [f0_0 o0, Option.bind_some, a0_1 o0, Option.bind_some, if_pos (by rw [nI_leI (by omega) (by omega)]; omega)]
    rfl
  | succ d ih =>
    intro c f hc hf
    obtain ⟨f, rfl⟩ : ∃ g, f = g + 1 := ⟨f - 1, by omega⟩
    have hcN : c < s_N s := by omega
    have ih2 := ih (c + 1) f (by omega) (by omega)
    have x4 : rJ t 5 m 4 c = s_kSum s m c := m4 c hcN
    have x5 : rI t 5 m 5 c = s_kRows s m c := m5 c hcN
    rw [List.range'_succ, List.all_cons]
    unfold fB_exact_13
    generalize fB_exact_13 f = R at ih2 ⊢
    rw [f0_0 o0, Option.bind_some, a0_1 o0, Option.bind_some, if_neg (by rw [nI_leI (by omega) (by omega)]; omega), f5_4 o5, Option.bind_some, g5_4 o5 hN hcN, Option.bind_some, f0_4 o0, Option.bind_some, g0_4 o0 hN hcN, Option.bind_some, x4, hQ.1]
    by_cases q1 : s_kSum s m c = A.1 c
    · rw [if_pos ((lg_cmp_eq _ _).mpr q1), f5_5 o5, Option.bind_some, g5_5 o5 hN hcN, Option.bind_some, f0_5 o0, Option.bind_some, g0_5 o0 hN hcN, Option.bind_some, x5, hQ.2]
      by_cases q2 : s_kRows s m c = A.2 c
      · rw [if_pos q2, nI_1, ih2, show exI s m A c = true from by unfold exI; rw [beq_iff_eq.mpr q1, beq_iff_eq.mpr q2]; rfl, Bool.true_and]
      · rw [if_neg q2, show exI s m A c = false from by unfold exI; rw [beq_eq_false_iff_ne.mpr q2, Bool.and_false], Bool.false_and]
        rfl
    · rw [if_neg (fun z => q1 ((lg_cmp_eq _ _).mp z)), show exI s m A c = false from by unfold exI; rw [beq_eq_false_iff_ne.mpr q1, Bool.false_and], Bool.false_and]
      rfl
theorem fB_exact_b (g : Cls e t s) {x : Int32} (hx : bad x (s_M s)) : CO (fB_exact (pv e t) n (pL e 0 0 0) x) e t n (.inr "java/lang/IndexOutOfBoundsException") s := by
  refine ⟨t, ?_, g, Fr.refl _ _⟩
  unfold fB_exact
  generalize fB_exact_13 zF = R
  rw [b0 (ClsG.o0 g), Option.bind_some, fB_completeMarkAt_b g hx]
  rfl
theorem fB_exact_n (g : Cls e t s) (w : Wf s) {m : Nat} (hm : m < s_M s) (h0 : s_cond s m ≠ 1) : CO (fB_exact (pv e t) n (pL e 0 0 0) (nI m)) e t n (.inr "java/lang/IllegalStateException") s := by
  refine ⟨t, ?_, g, Fr.refl _ _⟩
  unfold fB_exact
  generalize fB_exact_13 zF = R
  rw [b0 (ClsG.o0 g), Option.bind_some, fB_completeMarkAt_n g w hm h0]
  rfl
theorem fB_exact_g (g : Cls e t s) (w : Wf s) {m : Nat} (hm : m < s_M s) (h0 : s_cond s m = 1) : CO (fB_exact (pv e t) n (pL e 0 0 0) (nI m)) e t n (.inl (some (.int (b2i (exactI s m (rJ t 0 0 4, rI t 0 0 5)))))) s := by
  have hN8 := w.N8
  have A0 : CB t (ciZ 0 (rJ t 0 0 4, rI t 0 0 5)) := ⟨rfl, rfl⟩
  obtain ⟨t1, h1, g1, Q1, F1⟩ := fB_carryAlone_2_eq (n := n) w (nI m) (rJ t 0 0 4, rI t 0 0 5) (s_N s) 0 t zF (Nat.zero_add _) (zF_big (by omega)) g A0
  have h1' : fB_carryAlone_2 zF (pv e t) n (pL e 0 0 0) (nI m) 0 = fB_carryAlone_33 zF (pv e t1) n (pL e 0 0 0) (nI m) 0 := h1
  obtain ⟨t2, h2, g2, Q2, F2⟩ := fB_carryAlone_33_eq (n := n) w hm (s_N s) 0 _ t1 zF (Nat.zero_add _) (zF_big (by omega)) g1 Q1
  have h2' : fB_carryAlone_33 zF (pv e t1) n (pL e 0 0 0) (nI m) 0 = some (.inl none, pv e t2, n) := h2
  have h3 := fB_exact_13_eq (n := n) g2 w Q2 hm (s_N s) 0 zF (Nat.zero_add _) (zF_big (by omega))
  have h3' : fB_exact_13 zF (pv e t2) n (pL e 0 0 0) (some (pL e 5 m 0)) 0 = _ := h3
  have hca : fB_carryAlone (pv e t) n (pL e 0 0 0) (nI m) = some (.inl none, pv e t2, n) := by
    rw [← h2', ← h1']
    unfold fB_carryAlone
    generalize fB_carryAlone_2 zF = R
    rfl
  refine ⟨t2, ?_, g2, F1.trans F2⟩
  unfold exactI
  rw [← h3']
  unfold fB_exact
  generalize fB_exact_13 zF = R
  rw [b0 (ClsG.o0 g), Option.bind_some, fB_completeMarkAt_g g w hm h0, zcR_s, b0 (ClsG.o0 g), Option.bind_some, hca, zcV_s]
end PO
