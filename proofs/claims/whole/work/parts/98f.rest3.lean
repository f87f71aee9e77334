/-! the class's restore: the loops and the call -/
section PO
variable {e : pE} {t t' : pS} {s : zSt} {n : Nat} {Mf : Nat → Nat} {due : Nat → List Nat}
theorem fB_hasEnded_w (g : ClsG e t s Mf due) (hN8 : s_N s ≤ 8) {x : Nat} (hx : x < s_N s) : fB_hasEnded (pv e t) n (pL e 0 0 0) (nI x) = some (.inl (some (.int (b2i (s_ended s x)))), pv e t, n) := by
  have hN : s_N s < 2 ^ 31 := by omega
  have o0 := g.o0
  have o2 := g.o2 hx
  have r1 := g.r1 hx
  have a8 := (g.T x hx).2.2.2.2.2.2
  unfold fB_hasEnded fB_hasEnded_29
  rw [if_neg (nI_nn (by omega)), f0_0 o0, Option.bind_some, a0_1 o0, Option.bind_some, if_neg (by rw [nI_leI (by omega) (by omega)]; omega), Option.bind_some, g0_1 o0 hN hx, Option.bind_some, r1, f2_8 o2, Option.bind_some, a8]
  cases s_ended s x <;> rfl
theorem left_back (w : Wf s) {m c : Nat} (g : ClsG e t (backC s m (c + 1)) Mf due) (hc : c < s_C s) : (if s_fr s c = none then fS_left (pv e t) n (pL e 3 c 0) else fL_left (pv e t) n (pL e 4 c 0)) = some (.inl (some (.int (if s_fr s c = none then nI (s_log s c).length - nI (s_pos s m c) else 0))), pv e t, n) := by
  have hcC : c < s_C (backC s m (c + 1)) := by rw [z_backC_C]; exact hc
  cases hf : s_fr s c with
  | none =>
    have hf3 : s_fr (backC s m (c + 1)) c = none := by rw [z_backC_fr]; exact hf
    rw [if_pos rfl, if_pos rfl, fS_left_eq (g.o3 hcC hf3) (g.S c hcC hf3), z_backC_log]
    have : s_stand (backC s m (c + 1)) c = s_pos s m c := by
      rw [z_backC_stand]
      exact if_pos ⟨by omega, hf⟩
    rw [this]
  | some k =>
    have hf3 : s_fr (backC s m (c + 1)) c = some k := by rw [z_backC_fr]; exact hf
    rw [if_neg (by intro q; cases q), if_neg (by intro q; cases q), fL_left_eq (g.o4 hcC hf3) (g.L c k hcC hf3)]
    have : s_q (backC s m (c + 1)) c = [] := by
      rw [z_backC_q]
      exact if_pos (by omega)
    rw [this]
    rfl
set_option maxHeartbeats 2000000 in
theorem fB_restore_145_eq (w : Wf s) {m c : Nat} (hc : c < s_C s) {b : Bool} (hb : b = endF s c) {t1 : pS} (g3 : ClsG e (wI t1 (chK (s_fr s) c) c 3 (b2i (endF s c))) (backC s m (c + 1)) Mf due) (a : Int32) (K : zV → Nat → Nat → Int32 → Int32 → Int32 → Option zR) : fB_restore_145 K (pv e t1) n (pL e 0 0 0) (nI m) a (nI c) (some (pL e (chK (s_fr s) c) c 0)) (some (pL e (chK (s_fr s) c) c 0)) (b2i b) = K (pv e (wI t1 (chK (s_fr s) c) c 3 (b2i (endF s c)))) n (pL e 0 0 0) (nI m) (if s_fr s c = none then a + (nI (s_log s c).length - nI (s_pos s m c)) else a) (nI (c + 1)) := by
  have hE := g3.E
  rw [z_backC_N, z_backC_C, z_backC_fr, z_backC_M] at hE
  have hp3 := ch_p3 (t := t1) hE hc (v := b2i b) (b2i_01 b)
  have hd := ch_d (α := zR) (t := wI t1 (chK (s_fr s) c) c 3 (b2i (endF s c))) hE hc (fun a => fS_left (pv e (wI t1 (chK (s_fr s) c) c 3 (b2i (endF s c)))) n a) (fun a => fL_left (pv e (wI t1 (chK (s_fr s) c) c 3 (b2i (endF s c)))) n a)
  have hl := left_back (n := n) w g3 hc
  unfold fB_restore_145
  rw [hp3, Option.bind_some, hb, hd (fun a => zdI a _), hl, zdI_s, nI_1]
  cases hf : s_fr s c with
  | none => rfl
  | some k => rw [if_neg (by intro q; cases q), if_neg (by intro q; cases q), Int32.add_zero]
theorem rest84_run {V V1 V2 : zV} {a0 ch : Nat} {m a : Int32} {c C : Nat} {fr to : Int32} {b1 b2 : Bool} {f : Nat} {l : List Value} {arr : Nat} (R : zV → Nat → Nat → Int32 → Int32 → Int32 → Option zR) (hRR : fB_restore_84 f = R) (hC : C ≤ 16) (hc : c < C) (k6 : zgI V (some a0) [5] 6 = some (nI C)) (k1 : zgR V (some a0) [5] 1 = some (some arr)) (ka : zaR V (some arr) 4 (nI c) = some (some ch)) (kd : ∀ K : Option zR → Option zR, ((z_obj V (some ch) [1, 2]).bind fun o => K (if o.2.1 = 1 then fS_goBack V n o.1 m else fL_goBack V n o.1 m)) = K (some (.inl none, V1, n))) (kp : zpI V1 (some ch) [1, 2] 2 (-1) = some V2) (kf : zgI V2 (some ch) [1, 2] 0 = some fr) (ko : z_obj V2 (some a0) [5] = some (a0, 5, l)) (kh : fB_hasEnded V2 n a0 fr = some (.inl (some (.int (b2i b1))), V2, n)) (kt : zgI V2 (some ch) [1, 2] 1 = some to) (kh2 : fB_hasEnded V2 n a0 to = some (.inl (some (.int (b2i b2))), V2, n)) : fB_restore_84 (f + 1) V n a0 m a (nI c) = fB_restore_145 R V2 n a0 m a (nI c) (some ch) (some ch) (b2i (b1 || b2)) := by
  unfold fB_restore_84 fB_restore_140
  rw [hRR, k6, Option.bind_some, if_neg (by rw [nI_leI (by omega) (by omega)]; omega), k1, Option.bind_some, ka, Option.bind_some, kd (fun a => zdV a _), zdV_s, kp, Option.bind_some, kf, Option.bind_some, ko, Option.bind_some, kh, zcI_s]
  cases b1 with
  | true => rw [b2i_t, if_neg (by decide)]; rfl
  | false =>
    rw [b2i_f, if_pos rfl, kt, Option.bind_some, ko, Option.bind_some, kh2, zcI_s]
    cases b2 with
    | true => rw [b2i_t, if_neg (by decide)]; rfl
    | false => rw [b2i_f, if_pos rfl]; rfl
theorem rest84_0 (g : ClsG e t s Mf due) {f : Nat} (m a : Int32) : fB_restore_84 (f + 1) (pv e t) n (pL e 0 0 0) m a (nI (s_C s)) = some (.inl (some (.int a)), pv e t, n) := by
  unfold fB_restore_84
  rw [f0_6 g.o0, Option.bind_some, g.B.1, if_pos (Int32.le_refl _)]
  rfl
theorem rest_small {m c : Nat} {S2 : zSt} (hS2 : S2 = (if s_fr s c = none then u_held (u_stand (backC s m c) (fu (s_stand (backC s m c)) c (s_pos s m c))) (fu (s_held (backC s m c)) c none) else u_held (u_q (backC s m c) (fu (s_q (backC s m c)) c [])) (fu (s_held (backC s m c)) c none))) : s_N S2 = s_N s ∧ s_C S2 = s_C s ∧ s_fr S2 = s_fr s ∧ s_to S2 = s_to s ∧ s_ended S2 = s_ended s := by
  by_cases q : s_fr s c = none
  · rw [if_pos q] at hS2
    rw [hS2]
    exact ⟨(y_N_held _ _).trans ((y_N_stand _ _).trans (z_backC_N s m c)), (y_C_held _ _).trans ((y_C_stand _ _).trans (z_backC_C s m c)), (y_fr_held _ _).trans ((y_fr_stand _ _).trans (z_backC_fr s m c)), (y_to_held _ _).trans ((y_to_stand _ _).trans (z_backC_to s m c)), (y_ended_held _ _).trans ((y_ended_stand _ _).trans (z_backC_ended s m c))⟩
  · rw [if_neg q] at hS2
    rw [hS2]
    exact ⟨(y_N_held _ _).trans ((y_N_q _ _).trans (z_backC_N s m c)), (y_C_held _ _).trans ((y_C_q _ _).trans (z_backC_C s m c)), (y_fr_held _ _).trans ((y_fr_q _ _).trans (z_backC_fr s m c)), (y_to_held _ _).trans ((y_to_q _ _).trans (z_backC_to s m c)), (y_ended_held _ _).trans ((y_ended_q _ _).trans (z_backC_ended s m c))⟩
theorem rest84_step (w : Wf s) {m c : Nat} (hm : m < s_M s) (hMf : ∀ j, Mf j = s_M s) (hcC : c < s_C s) (g : ClsG e t (backC s m c) Mf due) (a : Int32) (f : Nat) : ∃ t1, fB_restore_84 (f + 1) (pv e t) n (pL e 0 0 0) (nI m) a (nI c) = fB_restore_84 f (pv e t1) n (pL e 0 0 0) (nI m) (if s_fr s c = none then a + (nI (s_log s c).length - nI (s_pos s m c)) else a) (nI (c + 1)) ∧ ClsG e t1 (backC s m (c + 1)) Mf due ∧ Fr PC t t1 := by
  have hN8 := w.N8; have hC := w.C
  have o0 := g.o0
  have h6 := g.B.1
  rw [z_backC_C] at h6
  have r2 := g.r2 (c := c) (by rw [z_backC_C]; exact hcC)
  rw [z_backC_fr] at r2
  have hE := g.E
  rw [z_backC_N, z_backC_C, z_backC_fr, z_backC_M] at hE
  obtain ⟨t1, h1, g3, g2, F1⟩ := back_ch (n := n) w g hcC hMf hm
  have hto := w.to hcC
  obtain ⟨S2, hS2⟩ : ∃ S2, S2 = (if s_fr s c = none then u_held (u_stand (backC s m c) (fu (s_stand (backC s m c)) c (s_pos s m c))) (fu (s_held (backC s m c)) c none) else u_held (u_q (backC s m c) (fu (s_q (backC s m c)) c [])) (fu (s_held (backC s m c)) c none)) := ⟨_, rfl⟩
  rw [← hS2] at g2
  obtain ⟨e1, e2, e3, e4, e5⟩ := rest_small hS2
  clear hS2
  have k0 := ClsG.fc0 g2 (c := c) (by rw [e2]; exact hcC)
  have k1 := ClsG.fc1 g2 (c := c) (by rw [e2]; exact hcC)
  rw [e3] at k0 k1
  rw [e4] at k1
  have hen : ∀ x, x < s_N s → fB_hasEnded (pv e (wI t1 (chK (s_fr s) c) c 2 (-1))) n (pL e 0 0 0) (nI x) = some (.inl (some (.int (b2i (s_ended s x)))), pv e (wI t1 (chK (s_fr s) c) c 2 (-1)), n) := fun x hx => by
    have := fB_hasEnded_w (n := n) g2 (by rw [e1]; exact hN8) (x := x) (by rw [e1]; exact hx)
    rw [e5] at this
    exact this
  have hk := chK_34 (s_fr s) c
  have hfe : ∃ b1, fB_hasEnded (pv e (wI t1 (chK (s_fr s) c) c 2 (-1))) n (pL e 0 0 0) (o2i (s_fr s c)) = some (.inl (some (.int (b2i b1))), pv e (wI t1 (chK (s_fr s) c) c 2 (-1)), n) ∧ endF s c = (b1 || s_ended s (s_to s c)) := by
    cases hf2 : s_fr s c with
    | none => exact ⟨false, fB_hasEnded_m, by rw [endF_n hf2, Bool.false_or]⟩
    | some k => exact ⟨s_ended s k, hen k (w.fr hcC hf2), by rw [endF_s hf2, Bool.or_comm]⟩
  obtain ⟨b1, hb1, hb2⟩ := hfe
  have hd := fun K => ch_d (α := zR) (t := t) hE hcC (fun a => fS_goBack (pv e t) n a (nI m)) (fun a => fL_goBack (pv e t) n a (nI m)) K
  rw [h1] at hd
  refine ⟨_, ?_, g3, F1.trans (((fr_p3 (k := chK (s_fr s) c) (i := c)).c (by omega)).trans ((fr_p3 (k := chK (s_fr s) c) (i := c)).c (by omega)))⟩
  rw [rest84_run (fB_restore_84 f) rfl hC hcC (by rw [f0_6 o0, h6]) (f0_1 o0) (by rw [g0_2 o0 (show c < 16 by omega), r2]) hd (ch_p2 (t := t1) hE hcC (-1)) k0 (b0 g2.o0) hb1 k1 (hen _ hto)]
  rw [fB_restore_145_eq (n := n) w hcC hb2.symm g3 a (fB_restore_84 f)]
theorem fB_restore_84_eq (w : Wf s) {m : Nat} (hm : m < s_M s) (hMf : ∀ j, Mf j = s_M s) : ∀ (d c : Nat) (a : Int32) (t : pS) (f : Nat), c + d = s_C s → d < f → ClsG e t (backC s m c) Mf due → ∃ t', fB_restore_84 f (pv e t) n (pL e 0 0 0) (nI m) a (nI c) = some (.inl (some (.int (anewS s m (List.range' c d) a))), pv e t', n) ∧ ClsG e t' (backC s m (s_C s)) Mf due ∧ Fr PC t t' := by
  intro d
  induction d with
  | zero =>
    intro c a t f hc hf g
    obtain ⟨f, rfl⟩ : ∃ g, f = g + 1 := ⟨f - 1, by omega⟩
    obtain rfl : c = s_C s := by omega
    refine ⟨t, ?_, g, Fr.refl _ _⟩
    have := rest84_0 (n := n) g (f := f) (nI m) a
    rw [z_backC_C] at this
    rw [this]
    rfl
  | succ d ih =>
    intro c a t f hc hf g
    obtain ⟨f, rfl⟩ : ∃ g, f = g + 1 := ⟨f - 1, by omega⟩
    obtain ⟨t1, h1, g1, F1⟩ := rest84_step (n := n) w hm hMf (by omega) g a f
    obtain ⟨t3, h3, g3, F3⟩ := ih (c + 1) _ t1 f (by omega) (by omega) g1
    refine ⟨t3, ?_, g3, F1.trans F3⟩
    rw [anewS_c, h1, h3]
set_option maxHeartbeats 2000000 in
theorem fB_restore_8_eq (w : Wf s) {m : Nat} (hm : m < s_M s) : ∀ (d c : Nat) (t : pS) (f : Nat), c + d = s_M s → d < f → Cls e t (giveUpTo c s) → ∃ t', fB_restore_8 f (pv e t) n (pL e 0 0 0) (nI m) (some (pL e 5 m 0)) (nI c) = fB_restore_54 zF (pv e t') n (pL e 0 0 0) (nI m) (some (pL e 5 m 0)) 0 ∧ Cls e t' (u_acks (giveUpTo (s_M s) s) []) ∧ Fr PC t t' := by
  have hM := w.M
  have hN8 := w.N8
  intro d
  induction d with
  | zero =>
    intro c t f hc hf g
    obtain ⟨f, rfl⟩ : ∃ g, f = g + 1 := ⟨f - 1, by omega⟩
    obtain rfl : c = s_M s := by omega
    have o0 := ClsG.o0 g
    have o1 := ClsG.o1 g
    have h7 := (ClsG.B g).2.1
    rw [gu_M] at h7
    obtain ⟨t1, h1, A1, F1⟩ := fK_clear_eq (n := n) (t := t) o1
    have g1 := ClsG.uacks g F1 A1
    refine ⟨t1, ?_, ?_, F1.c (by decide)⟩
    · unfold fB_restore_8
      generalize fB_restore_54 zF = R
      rw [f0_7 o0, Option.bind_some, h7, if_pos (Int32.le_refl _), f0_3 o0, Option.bind_some, b1 o1, Option.bind_some, h1, zcV_s]
    · unfold Cls
      rw [y_M_acks, d_dueS_acks]
      exact g1
  | succ d ih =>
    intro c t f hc hf g
    obtain ⟨f, rfl⟩ : ∃ g, f = g + 1 := ⟨f - 1, by omega⟩
    have q : ¬ s_M s ≤ c := by omega
    have hcM : c < s_M (giveUpTo c s) := by rw [gu_M]; omega
    have w2 := w.gu c
    have hcd := w2.cond c
    have o0 := ClsG.o0 g
    have o5 := ClsG.o5 g hcM
    have h7 := (ClsG.B g).2.1
    rw [gu_M] at h7
    have m8 := (ClsG.M g c hcM).2.2.2.2.2.2.2.2
    have r3 := ClsG.r3 g hcM
    have hc40 : c < 40 := by omega
    by_cases hq : s_cond (giveUpTo c s) c = 0
    · obtain ⟨t1, h1, g1, F1⟩ := fB_stopMark_eq (n := n) (m := c) (how := 2) g w2 hcM hq (by omega) (by omega)
      have h1' : fB_stopMark (pv e t) n (pL e 0 0 0) (some (pL e 5 c 0)) 2 = some (.inl none, pv e t1, n) := h1
      obtain ⟨t3, h3, g3, F3⟩ := ih (c + 1) t1 f (by omega) (by omega) (by rw [giveUpTo_s, if_pos hq]; exact g1)
      refine ⟨t3, ?_, g3, F1.trans F3⟩
      rw [← h3]
      generalize hR : fB_restore_8 f = R
      unfold fB_restore_8 fB_restore_39
      rw [hR]
      generalize fB_restore_54 zF = R2
      rw [f0_7 o0, Option.bind_some, h7, if_neg (by rw [nI_leI (by omega) (by omega)]; exact q), f0_2 o0, Option.bind_some, g0_3 o0 hc40, Option.bind_some, r3, f5_8 o5, Option.bind_some, m8, hq, nI0, if_pos rfl, Option.bind_some, g0_3 o0 hc40, Option.bind_some, r3, b0 o0, Option.bind_some, h1', zcV_s, nI_1]
    · obtain ⟨t3, h3, g3, F3⟩ := ih (c + 1) t f (by omega) (by omega) (by rw [giveUpTo_s, if_neg hq]; exact g)
      refine ⟨t3, ?_, g3, F3⟩
      rw [← h3]
      generalize hR : fB_restore_8 f = R
      unfold fB_restore_8 fB_restore_39
      rw [hR]
      generalize fB_restore_54 zF = R2
      rw [f0_7 o0, Option.bind_some, h7, if_neg (by rw [nI_leI (by omega) (by omega)]; exact q), f0_2 o0, Option.bind_some, g0_3 o0 hc40, Option.bind_some, r3, f5_8 o5, Option.bind_some, m8, if_neg (by rw [nI_eq0 (by omega)]; exact hq), nI_1]
theorem fB_restore_b (g : Cls e t s) {x : Int32} (hx : bad x (s_M s)) : CO (fB_restore (pv e t) n (pL e 0 0 0) x) e t n (.inr "java/lang/IndexOutOfBoundsException") s := by
  refine ⟨t, ?_, g, Fr.refl _ _⟩
  unfold fB_restore
  generalize fB_restore_8 zF = R
  rw [b0 (ClsG.o0 g), Option.bind_some, fB_completeMarkAt_b g hx]
  rfl
theorem fB_restore_n (g : Cls e t s) (w : Wf s) {m : Nat} (hm : m < s_M s) (h0 : s_cond s m ≠ 1) : CO (fB_restore (pv e t) n (pL e 0 0 0) (nI m)) e t n (.inr "java/lang/IllegalStateException") s := by
  refine ⟨t, ?_, g, Fr.refl _ _⟩
  unfold fB_restore
  generalize fB_restore_8 zF = R
  rw [b0 (ClsG.o0 g), Option.bind_some, fB_completeMarkAt_n g w hm h0]
  rfl
set_option maxHeartbeats 2000000 in
theorem fB_restore_g (g : Cls e t s) (w : Wf s) {m : Nat} (hm : m < s_M s) (h0 : s_cond s m = 1) : CO (fB_restore (pv e t) n (pL e 0 0 0) (nI m)) e t n (.inl (some (.int (anewS s m (List.range' 0 (s_C s)) 0)))) (restoreS s m) := by
  have hN8 := w.N8; have hM := w.M; have hC := w.C
  obtain ⟨t1, h1, g1, F1⟩ := fB_restore_8_eq (n := n) w hm (s_M s) 0 t zF (Nat.zero_add _) (zF_big (by omega)) g
  have h1' : fB_restore_8 zF (pv e t) n (pL e 0 0 0) (nI m) (some (pL e 5 m 0)) 0 = fB_restore_54 zF (pv e t1) n (pL e 0 0 0) (nI m) (some (pL e 5 m 0)) 0 := h1
  have w1 : Wf (u_acks (giveUpTo (s_M s) s) []) := (w.gu (s_M s)).uacks0
  have eM : s_M (u_acks (giveUpTo (s_M s) s) []) = s_M s := by rw [y_M_acks, gu_M]
  have eN : s_N (u_acks (giveUpTo (s_M s) s) []) = s_N s := by rw [y_N_acks, gu_N]
  obtain ⟨t2, h2, g2, F2⟩ := fB_restore_54_eq (n := n) w1 (m := m) (by rw [eM]; exact hm) (s_N s) 0 t1 zF (by rw [eN, Nat.zero_add]) (zF_big (by omega)) (by rw [backT_0]; exact g1)
  have h2' : fB_restore_54 zF (pv e t1) n (pL e 0 0 0) (nI m) (some (pL e 5 m 0)) 0 = fB_restore_84 zF (pv e t2) n (pL e 0 0 0) (nI m) 0 0 := h2
  rw [eN, back_acks] at g2
  have w2 : Wf (u_acks (backT (giveUpTo (s_M s) s) m (s_N s)) []) := (w.gu (s_M s)).bT.uacks0
  have eC2 : s_C (u_acks (backT (giveUpTo (s_M s) s) m (s_N s)) []) = s_C s := by rw [y_C_acks, z_backT_C, gu_C]
  have eM2 : s_M (u_acks (backT (giveUpTo (s_M s) s) m (s_N s)) []) = s_M s := by rw [y_M_acks, z_backT_M, gu_M]
  obtain ⟨t3, h3, g3, F3⟩ := fB_restore_84_eq (n := n) (Mf := fun _ => s_M (u_acks (giveUpTo (s_M s) s) [])) (due := dueS (u_acks (giveUpTo (s_M s) s) [])) w2 (m := m) (by rw [eM2]; exact hm) (fun j => by rw [eM, eM2]) (s_C s) 0 0 t2 zF (by rw [eC2, Nat.zero_add]) (zF_big (by omega)) (by rw [backC_0]; exact g2)
  have h3' : fB_restore_84 zF (pv e t2) n (pL e 0 0 0) (nI m) 0 0 = _ := h3
  rw [eC2] at g3
  have e1 : ∀ l a, anewS (u_acks (backT (giveUpTo (s_M s) s) m (s_N s)) []) m l a = anewS s m l a := by
    intro l a
    unfold anewS
    rw [y_fr_acks, y_log_acks, y_pos_acks, z_backT_fr, z_backT_log, z_backT_pos, (gu_fr s (s_M s)).1, (gu_fr s (s_M s)).2.1, (gu_fr s (s_M s)).2.2]
  rw [e1] at h3'
  refine ⟨t3, ?_, ?_, F1.trans (F2.trans F3)⟩
  · rw [← h3', ← h2', ← h1']
    unfold fB_restore
    generalize fB_restore_8 zF = R
    rw [b0 (ClsG.o0 g), Option.bind_some, fB_completeMarkAt_g g w hm h0, zcR_s]
  · unfold Cls restoreS
    rw [z_backC_M, bC_due, eM2, d_dueS_acks, bT_due]
    rw [eM, d_dueS_acks] at g3
    exact g3
end PO
