/-! HOW THE CLASS HOLDS THE MATHEMATICAL STATE -/
/-- a mark -/
def cMo (t : pS) (m N : Nat) (kept fails taken : Nat → Bool) (kS : Nat → Int64) (kR : Nat → Int32) (kE : Nat → Bool) (cnt cond : Nat) : Prop := qI t 5 m 0 = nI m ∧ hI (rI t 5 m 1) N (fun x => b2i (kept x)) ∧ hI (rI t 5 m 2) N (fun x => b2i (fails x)) ∧ hI (rI t 5 m 3) N (fun x => b2i (taken x)) ∧ hI (rJ t 5 m 4) N (fun x => kS x) ∧ hI (rI t 5 m 5) N (fun x => kR x) ∧ hI (rI t 5 m 6) N (fun x => b2i (kE x)) ∧ qI t 5 m 7 = nI cnt ∧ qI t 5 m 8 = nI cond
theorem cMo.fr {t t' : pS} {m N : Nat} {kept fails taken : Nat → Bool} {kS : Nat → Int64} {kR : Nat → Int32} {kE : Nat → Bool} {cnt cond : Nat} (h : cMo t m N kept fails taken kS kR kE cnt cond) (F : same t t' 5 m) : cMo t' m N kept fails taken kS kR kE cnt cond := by
  unfold cMo
  rw [F.1, F.2.2.1, F.2.2.2.1]
  exact h
/-- a task -/
def cTo (t : pS) (x ni no lk : Nat) (sum : Int64) (rows : Int32) (ended : Bool) : Prop := qI t 2 x 0 = nI x ∧ qI t 2 x 3 = nI ni ∧ qI t 2 x 4 = nI no ∧ qI t 2 x 5 = nI lk ∧ qJ t 2 x 6 = sum ∧ qI t 2 x 7 = rows ∧ qI t 2 x 8 = b2i ended
theorem cTo.fr {t t' : pS} {x ni no lk : Nat} {sum : Int64} {rows : Int32} {ended : Bool} (h : cTo t x ni no lk sum rows ended) (F : same t t' 2 x) : cTo t' x ni no lk sum rows ended := by
  unfold cTo
  rw [F.1, F.2.1]
  exact h
/-- what lines and sources have alike -/
def cCo (t : pS) (k c : Nat) (fr : Option Nat) (to : Nat) (held : Option Nat) (over : Bool) : Prop := qI t k c 0 = o2i fr ∧ qI t k c 1 = nI to ∧ qI t k c 2 = o2i held ∧ qI t k c 3 = b2i over
theorem cCo.fr {t t' : pS} {k c : Nat} {fr : Option Nat} {to : Nat} {held : Option Nat} {over : Bool} (h : cCo t k c fr to held over) (F : ∀ f, f ≤ 3 → qI t' k c f = qI t k c f) : cCo t' k c fr to held over := by
  unfold cCo
  rw [F 0 (by omega), F 1 (by omega), F 2 (by omega), F 3 (by omega)]
  exact h
def chK (fr : Nat → Option Nat) (c : Nat) : Nat := if fr c = none then 3 else 4
theorem chK_n {fr : Nat → Option Nat} {c : Nat} (h : fr c = none) : chK fr c = 3 := if_pos h
theorem chK_s {fr : Nat → Option Nat} {c k : Nat} (h : fr c = some k) : chK fr c = 4 := if_neg (by rw [h]; intro q; cases q)
theorem chK_34 (fr : Nat → Option Nat) (c : Nat) : chK fr c = 3 ∨ chK fr c = 4 := by
  unfold chK
  split
  · exact Or.inl rfl
  · exact Or.inr rfl
def cE (e : pE) (N C : Nat) (fr : Nat → Option Nat) (M : Nat) : Prop := o0K e 0 N ∧ o1K e 0 0 ∧ (∀ x, x < N → o2K e x 0) ∧ (∀ c, c < C → fr c = none → o3K e c 0) ∧ (∀ c k, c < C → fr c = some k → o4K e c 0) ∧ (∀ m, m < M → o5K e m N)
def cR (e : pE) (t : pS) (N C : Nat) (fr : Nat → Option Nat) (M : Nat) (I O : Nat → List Nat) : Prop := (∀ x, x < N → rR t 0 0 1 x = some (pL e 2 x 0)) ∧ (∀ c, c < C → rR t 0 0 2 c = some (pL e (chK fr c) c 0)) ∧ (∀ m, m < M → rR t 0 0 3 m = some (pL e 5 m 0)) ∧ (∀ x i c, x < N → (I x)[i]? = some c → rR t 2 x 1 i = some (pL e (chK fr c) c 0)) ∧ (∀ x i c, x < N → (O x)[i]? = some c → rR t 2 x 2 i = some (pL e 4 c 0))
def cB (t : pS) (C M beg : Nat) (tol : Bool) : Prop := qI t 0 0 6 = nI C ∧ qI t 0 0 7 = nI M ∧ qI t 0 0 8 = nI beg ∧ qI t 0 0 9 = b2i tol
def cT (t : pS) (N : Nat) (I O : Nat → List Nat) (lk : Nat → Nat) (sum : Nat → Int64) (rows : Nat → Int32) (ended : Nat → Bool) : Prop := ∀ x, x < N → cTo t x (I x).length (O x).length (lk x) (sum x) (rows x) (ended x)
def cC (t : pS) (C : Nat) (fr : Nat → Option Nat) (to : Nat → Nat) (held : Nat → Option Nat) (over : Nat → Bool) : Prop := ∀ c, c < C → cCo t (chK fr c) c (fr c) (to c) (held c) (over c)
def cS (t : pS) (C : Nat) (fr : Nat → Option Nat) (log : Nat → List Int64) (fin : Nat → Bool) (stand : Nat → Nat) (Mf : Nat → Nat) (pos : Nat → Nat → Nat) (due : Nat → List Nat) : Prop := ∀ c, c < C → fr c = none → cSo t c (log c) (fin c) (stand c) (Mf c) (fun m => pos m c) (due c)
def cL (t : pS) (C : Nat) (fr : Nat → Option Nat) (q : Nat → List (Nat × Int64)) : Prop := ∀ c k, c < C → fr c = some k → cLo t c (q c)
def cM (t : pS) (M N : Nat) (kept fails taken : Nat → Nat → Bool) (kS : Nat → Nat → Int64) (kR : Nat → Nat → Int32) (kE : Nat → Nat → Bool) (cnt cond : Nat → Nat) : Prop := ∀ m, m < M → cMo t m N (kept m) (fails m) (taken m) (kS m) (kR m) (kE m) (cnt m) (cond m)
/-- class and state; the marks that a source knows of, and those that are due there, are told apart: a loop changes them one by one -/
def ClsG (e : pE) (t : pS) (s : zSt) (Mf : Nat → Nat) (due : Nat → List Nat) : Prop := cE e (s_N s) (s_C s) (s_fr s) (s_M s) ∧ cR e t (s_N s) (s_C s) (s_fr s) (s_M s) (ins s) (outs s) ∧ cB t (s_C s) (s_M s) (begunS s) (s_tol s) ∧ cAo t (s_acks s) ∧ cT t (s_N s) (ins s) (outs s) (look s) (s_sum s) (s_rows s) (s_ended s) ∧ cC t (s_C s) (s_fr s) (s_to s) (s_held s) (s_over s) ∧ cS t (s_C s) (s_fr s) (s_log s) (s_fin s) (s_stand s) Mf (s_pos s) due ∧ cL t (s_C s) (s_fr s) (s_q s) ∧ cM t (s_M s) (s_N s) (s_kept s) (s_fails s) (s_taken s) (s_kSum s) (s_kRows s) (s_kEnd s) (countS s) (s_cond s)
def Cls (e : pE) (t : pS) (s : zSt) : Prop := ClsG e t s (fun _ => s_M s) (dueS s)
/-- the reference's object does not change -/
def PC : Nat → Nat → Prop := fun k _ => k ≤ 5
theorem Fr.c {k i : Nat} {t t' : pS} (F : Fr (PO k i) t t') (h : k ≤ 5) : Fr PC t t' := F.mono (fun k' i' q => by show k' ≤ 5; rw [q.1]; exact h)
section PO
variable {e : pE} {t t' : pS} {s : zSt} {n N' C' M' : Nat} {fq : Nat → Option Nat} {I' O' : Nat → List Nat}
theorem cR.fr (h : cR e t N' C' fq M' I' O') (h0 : rR t' 0 0 = rR t 0 0) (h2 : ∀ x, rR t' 2 x = rR t 2 x) : cR e t' N' C' fq M' I' O' := by
  unfold cR
  simp only [h0, h2]
  exact h
theorem cB.fr {beg : Nat} {tol : Bool} (h : cB t C' M' beg tol) (h0 : qI t' 0 0 = qI t 0 0) : cB t' C' M' beg tol := by
  unfold cB
  rw [h0]
  exact h
theorem cT.fr {lk : Nat → Nat} {sum : Nat → Int64} {rows : Nat → Int32} {ended : Nat → Bool} (h : cT t N' I' O' lk sum rows ended) (F : ∀ x, same t t' 2 x) : cT t' N' I' O' lk sum rows ended := fun x hx => (h x hx).fr (F x)
theorem cC.fr {to : Nat → Nat} {held : Nat → Option Nat} {over : Nat → Bool} (h : cC t C' fq to held over) (F : ∀ c f, f ≤ 3 → qI t' 3 c f = qI t 3 c f) (G : ∀ c f, f ≤ 3 → qI t' 4 c f = qI t 4 c f) : cC t' C' fq to held over := fun c hc => (h c hc).fr (fun f hf => by
  rcases chK_34 fq c with q | q
  · rw [q]; exact F c f hf
  · rw [q]; exact G c f hf)
theorem cS.fr {log : Nat → List Int64} {fin : Nat → Bool} {stand : Nat → Nat} {Mf : Nat → Nat} {pos : Nat → Nat → Nat} {due : Nat → List Nat} (h : cS t C' fq log fin stand Mf pos due) (F : ∀ c, same t t' 3 c) : cS t' C' fq log fin stand Mf pos due := fun c hc hf => (h c hc hf).fr (F c)
theorem cL.fr {q : Nat → List (Nat × Int64)} (h : cL t C' fq q) (F : ∀ c, same t t' 4 c) : cL t' C' fq q := fun c k hc hf => (h c k hc hf).fr (F c)
theorem cM.fr {kept fails taken : Nat → Nat → Bool} {kS : Nat → Nat → Int64} {kR : Nat → Nat → Int32} {kE : Nat → Nat → Bool} {cnt cond : Nat → Nat} (h : cM t M' N' kept fails taken kS kR kE cnt cond) (F : ∀ m, same t t' 5 m) : cM t' M' N' kept fails taken kS kR kE cnt cond := fun m hm => (h m hm).fr (F m)
theorem PO.ne {k i k' i' : Nat} (F : Fr (PO k i) t t') (h : k' ≠ k) : same t t' k' i' := F.same (fun q => h q.1)
variable {Mf : Nat → Nat} {due : Nat → List Nat}
theorem ClsG.E (g : ClsG e t s Mf due) : cE e (s_N s) (s_C s) (s_fr s) (s_M s) := g.1
theorem ClsG.R (g : ClsG e t s Mf due) : cR e t (s_N s) (s_C s) (s_fr s) (s_M s) (ins s) (outs s) := g.2.1
theorem ClsG.B (g : ClsG e t s Mf due) : cB t (s_C s) (s_M s) (begunS s) (s_tol s) := g.2.2.1
theorem ClsG.A (g : ClsG e t s Mf due) : cAo t (s_acks s) := g.2.2.2.1
theorem ClsG.T (g : ClsG e t s Mf due) : cT t (s_N s) (ins s) (outs s) (look s) (s_sum s) (s_rows s) (s_ended s) := g.2.2.2.2.1
theorem ClsG.C (g : ClsG e t s Mf due) : cC t (s_C s) (s_fr s) (s_to s) (s_held s) (s_over s) := g.2.2.2.2.2.1
theorem ClsG.S (g : ClsG e t s Mf due) : cS t (s_C s) (s_fr s) (s_log s) (s_fin s) (s_stand s) Mf (s_pos s) due := g.2.2.2.2.2.2.1
theorem ClsG.L (g : ClsG e t s Mf due) : cL t (s_C s) (s_fr s) (s_q s) := g.2.2.2.2.2.2.2.1
theorem ClsG.M (g : ClsG e t s Mf due) : cM t (s_M s) (s_N s) (s_kept s) (s_fails s) (s_taken s) (s_kSum s) (s_kRows s) (s_kEnd s) (countS s) (s_cond s) := g.2.2.2.2.2.2.2.2
theorem ClsG.o0 (g : ClsG e t s Mf due) : o0K e 0 (s_N s) := g.1.1
theorem ClsG.o1 (g : ClsG e t s Mf due) : o1K e 0 0 := g.1.2.1
theorem ClsG.o2 (g : ClsG e t s Mf due) {x : Nat} (hx : x < s_N s) : o2K e x 0 := g.1.2.2.1 x hx
theorem ClsG.o3 (g : ClsG e t s Mf due) {c : Nat} (hc : c < s_C s) (hf : s_fr s c = none) : o3K e c 0 := g.1.2.2.2.1 c hc hf
theorem ClsG.o4 (g : ClsG e t s Mf due) {c k : Nat} (hc : c < s_C s) (hf : s_fr s c = some k) : o4K e c 0 := g.1.2.2.2.2.1 c k hc hf
theorem ClsG.o5 (g : ClsG e t s Mf due) {m : Nat} (hm : m < s_M s) : o5K e m (s_N s) := g.1.2.2.2.2.2 m hm
theorem ClsG.r1 (g : ClsG e t s Mf due) {x : Nat} (hx : x < s_N s) : rR t 0 0 1 x = some (pL e 2 x 0) := g.R.1 x hx
theorem ClsG.r2 (g : ClsG e t s Mf due) {c : Nat} (hc : c < s_C s) : rR t 0 0 2 c = some (pL e (chK (s_fr s) c) c 0) := g.R.2.1 c hc
theorem ClsG.r3 (g : ClsG e t s Mf due) {m : Nat} (hm : m < s_M s) : rR t 0 0 3 m = some (pL e 5 m 0) := g.R.2.2.1 m hm
theorem ClsG.ri (g : ClsG e t s Mf due) {x i c : Nat} (hx : x < s_N s) (hi : (ins s x)[i]? = some c) : rR t 2 x 1 i = some (pL e (chK (s_fr s) c) c 0) := g.R.2.2.2.1 x i c hx hi
theorem ClsG.rp (g : ClsG e t s Mf due) {x i c : Nat} (hx : x < s_N s) (hi : (outs s x)[i]? = some c) : rR t 2 x 2 i = some (pL e 4 c 0) := g.R.2.2.2.2 x i c hx hi
/-- a line's things change -/
theorem ClsG.uq (g : ClsG e t s Mf due) {c : Nat} {q' : List (Nat × Int64)} (F : Fr (PO 4 c) t t') (F3 : ∀ f, f ≤ 3 → qI t' 4 c f = qI t 4 c f) (hq : cLo t' c q') : ClsG e t' (u_q s (fu (s_q s) c q')) Mf due := by
  have hs : ∀ k i, k ≠ 4 → same t t' k i := fun k i h => PO.ne F h
  unfold ClsG
  simp only [y_N_q, y_C_q, y_fr_q, y_to_q, y_tol_q, y_sum_q, y_rows_q, y_ended_q, y_latest_q, y_log_q, y_fin_q, y_stand_q, y_over_q, y_held_q, y_M_q, y_cond_q, y_pos_q, y_came_q, y_kept_q, y_kEnd_q, y_kSum_q, y_kRows_q, y_fails_q, y_taken_q, y_acks_q, su_q, d_ins_q, d_outs_q, d_hasIn_q, d_dueS_q, d_look_q, d_begunS_q, d_countS_q, d_barS_q, d_heldS_q, d_NKs_q]
  refine ⟨g.E, g.R.fr (hs 0 0 (by decide)).2.2.2.2 (fun x => (hs 2 x (by decide)).2.2.2.2), g.B.fr (hs 0 0 (by decide)).1, g.A.fr (hs 1 0 (by decide)), g.T.fr (fun x => hs 2 x (by decide)), g.C.fr (fun c f _ => by rw [(hs 3 c (by decide)).1]) (fun j f hf => ?_), g.S.fr (fun c => hs 3 c (by decide)), ?_, g.M.fr (fun m => hs 5 m (by decide))⟩
  · by_cases q : j = c
    · rw [q]; exact F3 f hf
    · rw [(F.same (k' := 4) (i' := j) (fun z => q z.2)).1]
  · intro j k hj hf
    by_cases q : j = c
    · rw [q, fu_self]; exact hq
    · rw [fu_ne _ _ q]; exact (g.L j k hj hf).fr (F.same (fun z => q z.2))
/-- a source changes -/
theorem ClsG.usrc (g : ClsG e t s Mf due) {c : Nat} (F : Fr (PO 3 c) t t') (F3 : ∀ f, f ≤ 3 → qI t' 3 c f = qI t 3 c f) {s' : zSt} {Mf' : Nat → Nat} {due' : Nat → List Nat} (hs' : ∀ e t Mf due, ClsG e t s' Mf due ↔ (cE e (s_N s) (s_C s) (s_fr s) (s_M s) ∧ cR e t (s_N s) (s_C s) (s_fr s) (s_M s) (ins s) (outs s) ∧ cB t (s_C s) (s_M s) (begunS s) (s_tol s) ∧ cAo t (s_acks s) ∧ cT t (s_N s) (ins s) (outs s) (look s) (s_sum s) (s_rows s) (s_ended s) ∧ cC t (s_C s) (s_fr s) (s_to s) (s_held s) (s_over s) ∧ cS t (s_C s) (s_fr s) (s_log s') (s_fin s') (s_stand s') Mf (s_pos s') due ∧ cL t (s_C s) (s_fr s) (s_q s) ∧ cM t (s_M s) (s_N s) (s_kept s) (s_fails s) (s_taken s) (s_kSum s) (s_kRows s) (s_kEnd s) (countS s) (s_cond s))) (ho : ∀ j, j ≠ c → s_log s' j = s_log s j ∧ s_fin s' j = s_fin s j ∧ s_stand s' j = s_stand s j ∧ Mf' j = Mf j ∧ (∀ m, s_pos s' m j = s_pos s m j) ∧ due' j = due j) (hn : cSo t' c (s_log s' c) (s_fin s' c) (s_stand s' c) (Mf' c) (fun m => s_pos s' m c) (due' c)) : ClsG e t' s' Mf' due' := by
  have hs : ∀ k i, k ≠ 3 → same t t' k i := fun k i h => PO.ne F h
  rw [hs']
  refine ⟨g.E, g.R.fr (hs 0 0 (by decide)).2.2.2.2 (fun x => (hs 2 x (by decide)).2.2.2.2), g.B.fr (hs 0 0 (by decide)).1, g.A.fr (hs 1 0 (by decide)), g.T.fr (fun x => hs 2 x (by decide)), g.C.fr (fun j f hf => ?_) (fun c f _ => by rw [(hs 4 c (by decide)).1]), ?_, g.L.fr (fun c => hs 4 c (by decide)), g.M.fr (fun m => hs 5 m (by decide))⟩
  · by_cases q : j = c
    · rw [q]; exact F3 f hf
    · rw [(F.same (k' := 3) (i' := j) (fun z => q z.2)).1]
  · intro j hj hf
    by_cases q : j = c
    · rw [q]; exact hn
    · obtain ⟨h1, h2, h3, h4, h5, h6⟩ := ho j q
      rw [h1, h2, h3, h4, h6, show (fun m => s_pos s' m j) = fun m => s_pos s m j from funext h5]
      exact (g.S j hj hf).fr (F.same (fun z => q z.2))
theorem ClsG.ulog (g : ClsG e t s Mf due) {c : Nat} {l : List Int64} (F : Fr (PO 3 c) t t') (F3 : ∀ f, f ≤ 3 → qI t' 3 c f = qI t 3 c f) (hn : cSo t' c l (s_fin s c) (s_stand s c) (Mf c) (fun m => s_pos s m c) (due c)) : ClsG e t' (u_log s (fu (s_log s) c l)) Mf due := by
  refine g.usrc F F3 (fun e t Mf due => by unfold ClsG; simp only [y_N_log, y_C_log, y_fr_log, y_to_log, y_tol_log, y_sum_log, y_rows_log, y_ended_log, y_latest_log, y_q_log, y_fin_log, y_stand_log, y_over_log, y_held_log, y_M_log, y_cond_log, y_pos_log, y_came_log, y_kept_log, y_kEnd_log, y_kSum_log, y_kRows_log, y_fails_log, y_taken_log, y_acks_log, su_log, d_ins_log, d_outs_log, d_hasIn_log, d_dueS_log, d_look_log, d_begunS_log, d_countS_log, d_credit_log, d_barS_log, d_heldS_log, d_NKs_log]) (fun j hj => ?_) ?_
  · simp only [y_N_log, y_C_log, y_fr_log, y_to_log, y_tol_log, y_sum_log, y_rows_log, y_ended_log, y_latest_log, y_q_log, y_fin_log, y_stand_log, y_over_log, y_held_log, y_M_log, y_cond_log, y_pos_log, y_came_log, y_kept_log, y_kEnd_log, y_kSum_log, y_kRows_log, y_fails_log, y_taken_log, y_acks_log, su_log, d_ins_log, d_outs_log, d_hasIn_log, d_dueS_log, d_look_log, d_begunS_log, d_countS_log, d_credit_log, d_barS_log, d_heldS_log, d_NKs_log]
    exact ⟨fu_ne _ _ hj, (by trivial), (by trivial), (by trivial), fun _ => (by trivial), (by trivial)⟩
  · simp only [y_N_log, y_C_log, y_fr_log, y_to_log, y_tol_log, y_sum_log, y_rows_log, y_ended_log, y_latest_log, y_q_log, y_fin_log, y_stand_log, y_over_log, y_held_log, y_M_log, y_cond_log, y_pos_log, y_came_log, y_kept_log, y_kEnd_log, y_kSum_log, y_kRows_log, y_fails_log, y_taken_log, y_acks_log, su_log, d_ins_log, d_outs_log, d_hasIn_log, d_dueS_log, d_look_log, d_begunS_log, d_countS_log, d_credit_log, d_barS_log, d_heldS_log, d_NKs_log, fu_self]
    exact hn
theorem ClsG.ufin (g : ClsG e t s Mf due) {c : Nat} {b : Bool} (F : Fr (PO 3 c) t t') (F3 : ∀ f, f ≤ 3 → qI t' 3 c f = qI t 3 c f) (hn : cSo t' c (s_log s c) b (s_stand s c) (Mf c) (fun m => s_pos s m c) (due c)) : ClsG e t' (u_fin s (fu (s_fin s) c b)) Mf due := by
  refine g.usrc F F3 (fun e t Mf due => by unfold ClsG; simp only [y_N_fin, y_C_fin, y_fr_fin, y_to_fin, y_tol_fin, y_sum_fin, y_rows_fin, y_ended_fin, y_latest_fin, y_q_fin, y_log_fin, y_stand_fin, y_over_fin, y_held_fin, y_M_fin, y_cond_fin, y_pos_fin, y_came_fin, y_kept_fin, y_kEnd_fin, y_kSum_fin, y_kRows_fin, y_fails_fin, y_taken_fin, y_acks_fin, su_fin, d_ins_fin, d_outs_fin, d_hasIn_fin, d_dueS_fin, d_look_fin, d_begunS_fin, d_countS_fin, d_credit_fin, d_barS_fin, d_heldS_fin, d_NKs_fin]) (fun j hj => ?_) ?_
  · simp only [y_N_fin, y_C_fin, y_fr_fin, y_to_fin, y_tol_fin, y_sum_fin, y_rows_fin, y_ended_fin, y_latest_fin, y_q_fin, y_log_fin, y_stand_fin, y_over_fin, y_held_fin, y_M_fin, y_cond_fin, y_pos_fin, y_came_fin, y_kept_fin, y_kEnd_fin, y_kSum_fin, y_kRows_fin, y_fails_fin, y_taken_fin, y_acks_fin, su_fin, d_ins_fin, d_outs_fin, d_hasIn_fin, d_dueS_fin, d_look_fin, d_begunS_fin, d_countS_fin, d_credit_fin, d_barS_fin, d_heldS_fin, d_NKs_fin]
    exact ⟨(by trivial), fu_ne _ _ hj, (by trivial), (by trivial), fun _ => (by trivial), (by trivial)⟩
  · simp only [y_N_fin, y_C_fin, y_fr_fin, y_to_fin, y_tol_fin, y_sum_fin, y_rows_fin, y_ended_fin, y_latest_fin, y_q_fin, y_log_fin, y_stand_fin, y_over_fin, y_held_fin, y_M_fin, y_cond_fin, y_pos_fin, y_came_fin, y_kept_fin, y_kEnd_fin, y_kSum_fin, y_kRows_fin, y_fails_fin, y_taken_fin, y_acks_fin, su_fin, d_ins_fin, d_outs_fin, d_hasIn_fin, d_dueS_fin, d_look_fin, d_begunS_fin, d_countS_fin, d_credit_fin, d_barS_fin, d_heldS_fin, d_NKs_fin, fu_self]
    exact hn
theorem ClsG.ustand (g : ClsG e t s Mf due) {c k : Nat} (F : Fr (PO 3 c) t t') (F3 : ∀ f, f ≤ 3 → qI t' 3 c f = qI t 3 c f) (hn : cSo t' c (s_log s c) (s_fin s c) k (Mf c) (fun m => s_pos s m c) (due c)) : ClsG e t' (u_stand s (fu (s_stand s) c k)) Mf due := by
  refine g.usrc F F3 (fun e t Mf due => by unfold ClsG; simp only [y_N_stand, y_C_stand, y_fr_stand, y_to_stand, y_tol_stand, y_sum_stand, y_rows_stand, y_ended_stand, y_latest_stand, y_q_stand, y_log_stand, y_fin_stand, y_over_stand, y_held_stand, y_M_stand, y_cond_stand, y_pos_stand, y_came_stand, y_kept_stand, y_kEnd_stand, y_kSum_stand, y_kRows_stand, y_fails_stand, y_taken_stand, y_acks_stand, su_stand, d_ins_stand, d_outs_stand, d_hasIn_stand, d_dueS_stand, d_look_stand, d_begunS_stand, d_countS_stand, d_credit_stand, d_heldS_stand, d_NKs_stand]) (fun j hj => ?_) ?_
  · simp only [y_N_stand, y_C_stand, y_fr_stand, y_to_stand, y_tol_stand, y_sum_stand, y_rows_stand, y_ended_stand, y_latest_stand, y_q_stand, y_log_stand, y_fin_stand, y_over_stand, y_held_stand, y_M_stand, y_cond_stand, y_pos_stand, y_came_stand, y_kept_stand, y_kEnd_stand, y_kSum_stand, y_kRows_stand, y_fails_stand, y_taken_stand, y_acks_stand, su_stand, d_ins_stand, d_outs_stand, d_hasIn_stand, d_dueS_stand, d_look_stand, d_begunS_stand, d_countS_stand, d_credit_stand, d_heldS_stand, d_NKs_stand]
    exact ⟨(by trivial), (by trivial), fu_ne _ _ hj, (by trivial), fun _ => (by trivial), (by trivial)⟩
  · simp only [y_N_stand, y_C_stand, y_fr_stand, y_to_stand, y_tol_stand, y_sum_stand, y_rows_stand, y_ended_stand, y_latest_stand, y_q_stand, y_log_stand, y_fin_stand, y_over_stand, y_held_stand, y_M_stand, y_cond_stand, y_pos_stand, y_came_stand, y_kept_stand, y_kEnd_stand, y_kSum_stand, y_kRows_stand, y_fails_stand, y_taken_stand, y_acks_stand, su_stand, d_ins_stand, d_outs_stand, d_hasIn_stand, d_dueS_stand, d_look_stand, d_begunS_stand, d_countS_stand, d_credit_stand, d_heldS_stand, d_NKs_stand, fu_self]
    exact hn
theorem ClsG.udue (g : ClsG e t s Mf due) {c : Nat} {d : List Nat} (F : Fr (PO 3 c) t t') (F3 : ∀ f, f ≤ 3 → qI t' 3 c f = qI t 3 c f) (hn : cSo t' c (s_log s c) (s_fin s c) (s_stand s c) (Mf c) (fun m => s_pos s m c) d) : ClsG e t' s Mf (fu due c d) := by
  refine g.usrc F F3 (fun e t Mf due => Iff.rfl) (fun j hj => ?_) ?_
  · exact ⟨rfl, rfl, rfl, rfl, fun _ => rfl, fu_ne _ _ hj⟩
  · rw [fu_self]
    exact hn
theorem ClsG.upos (g : ClsG e t s Mf due) {c m k M' : Nat} {d : List Nat} (F : Fr (PO 3 c) t t') (F3 : ∀ f, f ≤ 3 → qI t' 3 c f = qI t 3 c f) (hn : cSo t' c (s_log s c) (s_fin s c) (s_stand s c) M' (fun a => fu2 (s_pos s) m c k a c) d) : ClsG e t' (u_pos s (fu2 (s_pos s) m c k)) (fu Mf c M') (fu due c d) := by
  refine g.usrc F F3 (fun e t Mf due => by unfold ClsG; simp only [y_N_pos, y_C_pos, y_fr_pos, y_to_pos, y_tol_pos, y_sum_pos, y_rows_pos, y_ended_pos, y_latest_pos, y_q_pos, y_log_pos, y_fin_pos, y_stand_pos, y_over_pos, y_held_pos, y_M_pos, y_cond_pos, y_came_pos, y_kept_pos, y_kEnd_pos, y_kSum_pos, y_kRows_pos, y_fails_pos, y_taken_pos, y_acks_pos, su_pos, d_ins_pos, d_outs_pos, d_hasIn_pos, d_dueS_pos, d_look_pos, d_begunS_pos, d_countS_pos, d_credit_pos, d_heldS_pos, d_NKs_pos]) (fun j hj => ?_) ?_
  · simp only [y_N_pos, y_C_pos, y_fr_pos, y_to_pos, y_tol_pos, y_sum_pos, y_rows_pos, y_ended_pos, y_latest_pos, y_q_pos, y_log_pos, y_fin_pos, y_stand_pos, y_over_pos, y_held_pos, y_M_pos, y_cond_pos, y_came_pos, y_kept_pos, y_kEnd_pos, y_kSum_pos, y_kRows_pos, y_fails_pos, y_taken_pos, y_acks_pos, su_pos, d_ins_pos, d_outs_pos, d_hasIn_pos, d_dueS_pos, d_look_pos, d_begunS_pos, d_countS_pos, d_credit_pos, d_heldS_pos, d_NKs_pos]
    exact ⟨(by trivial), (by trivial), (by trivial), fu_ne _ _ hj, fun a => if_neg (fun z => hj z.2), fu_ne _ _ hj⟩
  · simp only [y_N_pos, y_C_pos, y_fr_pos, y_to_pos, y_tol_pos, y_sum_pos, y_rows_pos, y_ended_pos, y_latest_pos, y_q_pos, y_log_pos, y_fin_pos, y_stand_pos, y_over_pos, y_held_pos, y_M_pos, y_cond_pos, y_came_pos, y_kept_pos, y_kEnd_pos, y_kSum_pos, y_kRows_pos, y_fails_pos, y_taken_pos, y_acks_pos, su_pos, d_ins_pos, d_outs_pos, d_hasIn_pos, d_dueS_pos, d_look_pos, d_begunS_pos, d_countS_pos, d_credit_pos, d_heldS_pos, d_NKs_pos, fu_self]
    exact hn
theorem cSo.w3 {c : Nat} {log : List Int64} {fin : Bool} {stand M : Nat} {pos : Nat → Nat} {due : List Nat} (h : cSo t c log fin stand M pos due) {f : Nat} (hf : f ≤ 3) (v : Int32) : cSo (wI t 3 c f v) c log fin stand M pos due := by
  unfold cSo
  rw [rI_wI, rJ_wI, qJ_wI]
  simp only [qI_wI, true_and]
  rw [if_neg (by omega), if_neg (by omega), if_neg (by omega), if_neg (by omega)]
  exact h
theorem cLo.w3 {c : Nat} {q : List (Nat × Int64)} (h : cLo t c q) {f : Nat} (hf : f ≤ 3) (v : Int32) : cLo (wI t 4 c f v) c q := by
  unfold cLo
  rw [rI_wI, rJ_wI]
  simp only [qI_wI, true_and]
  rw [if_neg (by omega)]
  exact h
theorem fr_p3 {k i f : Nat} {v : Int32} : Fr (PO k i) t (wI t k i f v) := Fr.wI (po k i) (Fr.refl _ _)
/-- a channel is held or over -/
theorem ClsG.uch (g : ClsG e t s Mf due) {c f : Nat} {v : Int32} (hc : c < s_C s) (hf3 : f ≤ 3) {s' : zSt} (hs' : ∀ e t Mf due, ClsG e t s' Mf due ↔ (cE e (s_N s) (s_C s) (s_fr s) (s_M s) ∧ cR e t (s_N s) (s_C s) (s_fr s) (s_M s) (ins s) (outs s) ∧ cB t (s_C s) (s_M s) (begunS s) (s_tol s) ∧ cAo t (s_acks s) ∧ cT t (s_N s) (ins s) (outs s) (look s) (s_sum s) (s_rows s) (s_ended s) ∧ cC t (s_C s) (s_fr s) (s_to s) (s_held s') (s_over s') ∧ cS t (s_C s) (s_fr s) (s_log s) (s_fin s) (s_stand s) Mf (s_pos s) due ∧ cL t (s_C s) (s_fr s) (s_q s) ∧ cM t (s_M s) (s_N s) (s_kept s) (s_fails s) (s_taken s) (s_kSum s) (s_kRows s) (s_kEnd s) (countS s) (s_cond s))) (ho : ∀ j, j ≠ c → s_held s' j = s_held s j ∧ s_over s' j = s_over s j) (hn : cCo (wI t (chK (s_fr s) c) c f v) (chK (s_fr s) c) c (s_fr s c) (s_to s c) (s_held s' c) (s_over s' c)) : ClsG e (wI t (chK (s_fr s) c) c f v) s' Mf due := by
  have F : Fr (PO (chK (s_fr s) c) c) t (wI t (chK (s_fr s) c) c f v) := fr_p3
  have hk := chK_34 (s_fr s) c
  have hs : ∀ k i, k ≠ 3 → k ≠ 4 → same t (wI t (chK (s_fr s) c) c f v) k i := fun k i h h' => PO.ne F (by omega)
  rw [hs']
  refine ⟨g.E, g.R.fr (hs 0 0 (by decide) (by decide)).2.2.2.2 (fun x => (hs 2 x (by decide) (by decide)).2.2.2.2), g.B.fr (hs 0 0 (by decide) (by decide)).1, g.A.fr (hs 1 0 (by decide) (by decide)), g.T.fr (fun x => hs 2 x (by decide) (by decide)), ?_, ?_, ?_, g.M.fr (fun m => hs 5 m (by decide) (by decide))⟩
  · intro j hj
    by_cases q : j = c
    · rw [q]; exact hn
    · rw [(ho j q).1, (ho j q).2]
      exact (g.C j hj).fr (fun f _ => by rw [(F.same (k' := chK (s_fr s) j) (i' := j) (fun z => q z.2)).1])
  · intro j hj hf
    by_cases q : j = c
    · rw [q] at hf ⊢
      rw [chK_n hf]
      exact (g.S c hc hf).w3 hf3 v
    · exact (g.S j hj hf).fr (F.same (fun z => q z.2))
  · intro j k hj hf
    by_cases q : j = c
    · rw [q] at hf ⊢
      rw [chK_s hf]
      exact (g.L c k hc hf).w3 hf3 v
    · exact (g.L j k hj hf).fr (F.same (fun z => q z.2))
theorem ClsG.uheld (g : ClsG e t s Mf due) {c : Nat} (hc : c < s_C s) (v : Option Nat) : ClsG e (wI t (chK (s_fr s) c) c 2 (o2i v)) (u_held s (fu (s_held s) c v)) Mf due := by
  refine g.uch hc (by omega) (fun e t Mf due => by unfold ClsG; simp only [y_N_held, y_C_held, y_fr_held, y_to_held, y_tol_held, y_sum_held, y_rows_held, y_ended_held, y_latest_held, y_q_held, y_log_held, y_fin_held, y_stand_held, y_over_held, y_M_held, y_cond_held, y_pos_held, y_came_held, y_kept_held, y_kEnd_held, y_kSum_held, y_kRows_held, y_fails_held, y_taken_held, y_acks_held, su_held, d_ins_held, d_outs_held, d_hasIn_held, d_dueS_held, d_look_held, d_begunS_held, d_countS_held, d_credit_held, d_barS_held, d_nextS_held, d_NKs_held]) (fun j hj => ?_) ?_
  · simp only [y_N_held, y_C_held, y_fr_held, y_to_held, y_tol_held, y_sum_held, y_rows_held, y_ended_held, y_latest_held, y_q_held, y_log_held, y_fin_held, y_stand_held, y_over_held, y_M_held, y_cond_held, y_pos_held, y_came_held, y_kept_held, y_kEnd_held, y_kSum_held, y_kRows_held, y_fails_held, y_taken_held, y_acks_held, su_held, d_ins_held, d_outs_held, d_hasIn_held, d_dueS_held, d_look_held, d_begunS_held, d_countS_held, d_credit_held, d_barS_held, d_nextS_held, d_NKs_held]
    exact ⟨fu_ne _ _ hj, (by trivial)⟩
  · simp only [y_N_held, y_C_held, y_fr_held, y_to_held, y_tol_held, y_sum_held, y_rows_held, y_ended_held, y_latest_held, y_q_held, y_log_held, y_fin_held, y_stand_held, y_over_held, y_M_held, y_cond_held, y_pos_held, y_came_held, y_kept_held, y_kEnd_held, y_kSum_held, y_kRows_held, y_fails_held, y_taken_held, y_acks_held, su_held, d_ins_held, d_outs_held, d_hasIn_held, d_dueS_held, d_look_held, d_begunS_held, d_countS_held, d_credit_held, d_barS_held, d_nextS_held, d_NKs_held, fu_self]
    obtain ⟨h0, h1, h2, h3⟩ := g.C c hc
    unfold cCo
    simp only [qI_wI, true_and]
    exact ⟨h0, h1, rfl, h3⟩
theorem ClsG.uover (g : ClsG e t s Mf due) {c : Nat} (hc : c < s_C s) (v : Bool) : ClsG e (wI t (chK (s_fr s) c) c 3 (b2i v)) (u_over s (fu (s_over s) c v)) Mf due := by
  refine g.uch hc (by omega) (fun e t Mf due => by unfold ClsG; simp only [y_N_over, y_C_over, y_fr_over, y_to_over, y_tol_over, y_sum_over, y_rows_over, y_ended_over, y_latest_over, y_q_over, y_log_over, y_fin_over, y_stand_over, y_held_over, y_M_over, y_cond_over, y_pos_over, y_came_over, y_kept_over, y_kEnd_over, y_kSum_over, y_kRows_over, y_fails_over, y_taken_over, y_acks_over, su_over, d_ins_over, d_outs_over, d_hasIn_over, d_dueS_over, d_look_over, d_begunS_over, d_countS_over, d_credit_over, d_barS_over, d_heldS_over, d_NKs_over]) (fun j hj => ?_) ?_
  · simp only [y_N_over, y_C_over, y_fr_over, y_to_over, y_tol_over, y_sum_over, y_rows_over, y_ended_over, y_latest_over, y_q_over, y_log_over, y_fin_over, y_stand_over, y_held_over, y_M_over, y_cond_over, y_pos_over, y_came_over, y_kept_over, y_kEnd_over, y_kSum_over, y_kRows_over, y_fails_over, y_taken_over, y_acks_over, su_over, d_ins_over, d_outs_over, d_hasIn_over, d_dueS_over, d_look_over, d_begunS_over, d_countS_over, d_credit_over, d_barS_over, d_heldS_over, d_NKs_over]
    exact ⟨(by trivial), fu_ne _ _ hj⟩
  · simp only [y_N_over, y_C_over, y_fr_over, y_to_over, y_tol_over, y_sum_over, y_rows_over, y_ended_over, y_latest_over, y_q_over, y_log_over, y_fin_over, y_stand_over, y_held_over, y_M_over, y_cond_over, y_pos_over, y_came_over, y_kept_over, y_kEnd_over, y_kSum_over, y_kRows_over, y_fails_over, y_taken_over, y_acks_over, su_over, d_ins_over, d_outs_over, d_hasIn_over, d_dueS_over, d_look_over, d_begunS_over, d_countS_over, d_credit_over, d_barS_over, d_heldS_over, d_NKs_over, fu_self]
    obtain ⟨h0, h1, h2, h3⟩ := g.C c hc
    unfold cCo
    simp only [qI_wI, true_and]
    exact ⟨h0, h1, h2, rfl⟩
/-- a task changes -/
theorem ClsG.utask (g : ClsG e t s Mf due) {x : Nat} (F : Fr (PO 2 x) t t') (hR : rR t' 2 x = rR t 2 x) {s' : zSt} (hs' : ∀ e t Mf due, ClsG e t s' Mf due ↔ (cE e (s_N s) (s_C s) (s_fr s) (s_M s) ∧ cR e t (s_N s) (s_C s) (s_fr s) (s_M s) (ins s) (outs s) ∧ cB t (s_C s) (s_M s) (begunS s) (s_tol s) ∧ cAo t (s_acks s) ∧ cT t (s_N s) (ins s) (outs s) (look s') (s_sum s') (s_rows s') (s_ended s') ∧ cC t (s_C s) (s_fr s) (s_to s) (s_held s) (s_over s) ∧ cS t (s_C s) (s_fr s) (s_log s) (s_fin s) (s_stand s) Mf (s_pos s) due ∧ cL t (s_C s) (s_fr s) (s_q s) ∧ cM t (s_M s) (s_N s) (s_kept s) (s_fails s) (s_taken s) (s_kSum s) (s_kRows s) (s_kEnd s) (countS s) (s_cond s))) (ho : ∀ j, j ≠ x → look s' j = look s j ∧ s_sum s' j = s_sum s j ∧ s_rows s' j = s_rows s j ∧ s_ended s' j = s_ended s j) (hn : cTo t' x (ins s x).length (outs s x).length (look s' x) (s_sum s' x) (s_rows s' x) (s_ended s' x)) : ClsG e t' s' Mf due := by
  have hs : ∀ k i, k ≠ 2 → same t t' k i := fun k i h => PO.ne F h
  rw [hs']
  refine ⟨g.E, g.R.fr (hs 0 0 (by decide)).2.2.2.2 (fun j => ?_), g.B.fr (hs 0 0 (by decide)).1, g.A.fr (hs 1 0 (by decide)), ?_, g.C.fr (fun c f _ => by rw [(hs 3 c (by decide)).1]) (fun c f _ => by rw [(hs 4 c (by decide)).1]), g.S.fr (fun c => hs 3 c (by decide)), g.L.fr (fun c => hs 4 c (by decide)), g.M.fr (fun m => hs 5 m (by decide))⟩
  · by_cases q : j = x
    · rw [q]; exact hR
    · exact (F.same (k' := 2) (i' := j) (fun z => q z.2)).2.2.2.2
  · intro j hj
    by_cases q : j = x
    · rw [q]; exact hn
    · rw [(ho j q).1, (ho j q).2.1, (ho j q).2.2.1, (ho j q).2.2.2]
      exact (g.T j hj).fr (F.same (fun z => q z.2))
theorem ClsG.urow (g : ClsG e t s Mf due) {x : Nat} (hx : x < s_N s) (v : Int64) (r : Int32) : ClsG e (wI (wJ t 2 x 6 v) 2 x 7 r) (u_sum (u_rows s (fu (s_rows s) x r)) (fu (s_sum s) x v)) Mf due := by
  refine g.utask (Fr.wI (po 2 x) (Fr.wJ (po 2 x) (Fr.refl _ _))) rfl (fun e t Mf due => by unfold ClsG; simp only [y_N_sum, y_C_sum, y_fr_sum, y_to_sum, y_tol_sum, y_rows_sum, y_ended_sum, y_latest_sum, y_q_sum, y_log_sum, y_fin_sum, y_stand_sum, y_over_sum, y_held_sum, y_M_sum, y_cond_sum, y_pos_sum, y_came_sum, y_kept_sum, y_kEnd_sum, y_kSum_sum, y_kRows_sum, y_fails_sum, y_taken_sum, y_acks_sum, su_sum, d_ins_sum, d_outs_sum, d_hasIn_sum, d_dueS_sum, d_look_sum, d_begunS_sum, d_countS_sum, d_credit_sum, d_barS_sum, d_nextS_sum, d_heldS_sum, d_NKs_sum, y_N_rows, y_C_rows, y_fr_rows, y_to_rows, y_tol_rows, y_sum_rows, y_ended_rows, y_latest_rows, y_q_rows, y_log_rows, y_fin_rows, y_stand_rows, y_over_rows, y_held_rows, y_M_rows, y_cond_rows, y_pos_rows, y_came_rows, y_kept_rows, y_kEnd_rows, y_kSum_rows, y_kRows_rows, y_fails_rows, y_taken_rows, y_acks_rows, su_rows, d_ins_rows, d_outs_rows, d_hasIn_rows, d_dueS_rows, d_look_rows, d_begunS_rows, d_countS_rows, d_credit_rows, d_barS_rows, d_nextS_rows, d_heldS_rows, d_NKs_rows]) (fun j hj => ?_) ?_
  · simp only [y_N_sum, y_C_sum, y_fr_sum, y_to_sum, y_tol_sum, y_rows_sum, y_ended_sum, y_latest_sum, y_q_sum, y_log_sum, y_fin_sum, y_stand_sum, y_over_sum, y_held_sum, y_M_sum, y_cond_sum, y_pos_sum, y_came_sum, y_kept_sum, y_kEnd_sum, y_kSum_sum, y_kRows_sum, y_fails_sum, y_taken_sum, y_acks_sum, su_sum, d_ins_sum, d_outs_sum, d_hasIn_sum, d_dueS_sum, d_look_sum, d_begunS_sum, d_countS_sum, d_credit_sum, d_barS_sum, d_nextS_sum, d_heldS_sum, d_NKs_sum, y_N_rows, y_C_rows, y_fr_rows, y_to_rows, y_tol_rows, y_sum_rows, y_ended_rows, y_latest_rows, y_q_rows, y_log_rows, y_fin_rows, y_stand_rows, y_over_rows, y_held_rows, y_M_rows, y_cond_rows, y_pos_rows, y_came_rows, y_kept_rows, y_kEnd_rows, y_kSum_rows, y_kRows_rows, y_fails_rows, y_taken_rows, y_acks_rows, su_rows, d_ins_rows, d_outs_rows, d_hasIn_rows, d_dueS_rows, d_look_rows, d_begunS_rows, d_countS_rows, d_credit_rows, d_barS_rows, d_nextS_rows, d_heldS_rows, d_NKs_rows]
    exact ⟨(by trivial), fu_ne _ _ hj, fu_ne _ _ hj, (by trivial)⟩
  · simp only [y_N_sum, y_C_sum, y_fr_sum, y_to_sum, y_tol_sum, y_rows_sum, y_ended_sum, y_latest_sum, y_q_sum, y_log_sum, y_fin_sum, y_stand_sum, y_over_sum, y_held_sum, y_M_sum, y_cond_sum, y_pos_sum, y_came_sum, y_kept_sum, y_kEnd_sum, y_kSum_sum, y_kRows_sum, y_fails_sum, y_taken_sum, y_acks_sum, su_sum, d_ins_sum, d_outs_sum, d_hasIn_sum, d_dueS_sum, d_look_sum, d_begunS_sum, d_countS_sum, d_credit_sum, d_barS_sum, d_nextS_sum, d_heldS_sum, d_NKs_sum, y_N_rows, y_C_rows, y_fr_rows, y_to_rows, y_tol_rows, y_sum_rows, y_ended_rows, y_latest_rows, y_q_rows, y_log_rows, y_fin_rows, y_stand_rows, y_over_rows, y_held_rows, y_M_rows, y_cond_rows, y_pos_rows, y_came_rows, y_kept_rows, y_kEnd_rows, y_kSum_rows, y_kRows_rows, y_fails_rows, y_taken_rows, y_acks_rows, su_rows, d_ins_rows, d_outs_rows, d_hasIn_rows, d_dueS_rows, d_look_rows, d_begunS_rows, d_countS_rows, d_credit_rows, d_barS_rows, d_nextS_rows, d_heldS_rows, d_NKs_rows, fu_self]
    obtain ⟨h0, h1, h2, h3, h4, h5, h6⟩ := g.T x hx
    unfold cTo
    simp only [qI_wI, qI_wJ, qJ_wI, qJ_wJ, true_and]
    exact ⟨h0, h1, h2, h3, rfl, rfl, h6⟩
theorem ClsG.uended (g : ClsG e t s Mf due) {x : Nat} (hx : x < s_N s) (b : Bool) : ClsG e (wI t 2 x 8 (b2i b)) (u_ended s (fu (s_ended s) x b)) Mf due := by
  refine g.utask (Fr.wI (po 2 x) (Fr.refl _ _)) rfl (fun e t Mf due => by unfold ClsG; simp only [y_N_ended, y_C_ended, y_fr_ended, y_to_ended, y_tol_ended, y_sum_ended, y_rows_ended, y_latest_ended, y_q_ended, y_log_ended, y_fin_ended, y_stand_ended, y_over_ended, y_held_ended, y_M_ended, y_cond_ended, y_pos_ended, y_came_ended, y_kept_ended, y_kEnd_ended, y_kSum_ended, y_kRows_ended, y_fails_ended, y_taken_ended, y_acks_ended, su_ended, d_ins_ended, d_outs_ended, d_hasIn_ended, d_dueS_ended, d_look_ended, d_begunS_ended, d_countS_ended, d_credit_ended, d_barS_ended, d_nextS_ended, d_heldS_ended, d_NKs_ended]) (fun j hj => ?_) ?_
  · simp only [y_N_ended, y_C_ended, y_fr_ended, y_to_ended, y_tol_ended, y_sum_ended, y_rows_ended, y_latest_ended, y_q_ended, y_log_ended, y_fin_ended, y_stand_ended, y_over_ended, y_held_ended, y_M_ended, y_cond_ended, y_pos_ended, y_came_ended, y_kept_ended, y_kEnd_ended, y_kSum_ended, y_kRows_ended, y_fails_ended, y_taken_ended, y_acks_ended, su_ended, d_ins_ended, d_outs_ended, d_hasIn_ended, d_dueS_ended, d_look_ended, d_begunS_ended, d_countS_ended, d_credit_ended, d_barS_ended, d_nextS_ended, d_heldS_ended, d_NKs_ended]
    exact ⟨(by trivial), (by trivial), (by trivial), fu_ne _ _ hj⟩
  · simp only [y_N_ended, y_C_ended, y_fr_ended, y_to_ended, y_tol_ended, y_sum_ended, y_rows_ended, y_latest_ended, y_q_ended, y_log_ended, y_fin_ended, y_stand_ended, y_over_ended, y_held_ended, y_M_ended, y_cond_ended, y_pos_ended, y_came_ended, y_kept_ended, y_kEnd_ended, y_kSum_ended, y_kRows_ended, y_fails_ended, y_taken_ended, y_acks_ended, su_ended, d_ins_ended, d_outs_ended, d_hasIn_ended, d_dueS_ended, d_look_ended, d_begunS_ended, d_countS_ended, d_credit_ended, d_barS_ended, d_nextS_ended, d_heldS_ended, d_NKs_ended, fu_self]
    obtain ⟨h0, h1, h2, h3, h4, h5, h6⟩ := g.T x hx
    unfold cTo
    simp only [qI_wI, qJ_wI, true_and]
    exact ⟨h0, h1, h2, h3, h4, h5, rfl⟩
theorem look_ne (s : zSt) {x j : Nat} (v : Option Nat) (h : j ≠ x) : look (u_latest s (fu (s_latest s) x v)) j = look s j := by
  unfold look
  rw [su_latest, fu_ne _ _ h, d_ins_latest]
theorem ClsG.ulatest (g : ClsG e t s Mf due) {x : Nat} (hx : x < s_N s) (v : Option Nat) : ClsG e (wI t 2 x 5 (nI (look (u_latest s (fu (s_latest s) x v)) x))) (u_latest s (fu (s_latest s) x v)) Mf due := by
  refine g.utask (Fr.wI (po 2 x) (Fr.refl _ _)) rfl (fun e t Mf due => by unfold ClsG; simp only [y_N_latest, y_C_latest, y_fr_latest, y_to_latest, y_tol_latest, y_sum_latest, y_rows_latest, y_ended_latest, y_q_latest, y_log_latest, y_fin_latest, y_stand_latest, y_over_latest, y_held_latest, y_M_latest, y_cond_latest, y_pos_latest, y_came_latest, y_kept_latest, y_kEnd_latest, y_kSum_latest, y_kRows_latest, y_fails_latest, y_taken_latest, y_acks_latest, su_latest, d_ins_latest, d_outs_latest, d_hasIn_latest, d_dueS_latest, d_begunS_latest, d_countS_latest, d_credit_latest, d_barS_latest, d_nextS_latest, d_heldS_latest, d_NKs_latest]) (fun j hj => ?_) ?_
  · simp only [y_N_latest, y_C_latest, y_fr_latest, y_to_latest, y_tol_latest, y_sum_latest, y_rows_latest, y_ended_latest, y_q_latest, y_log_latest, y_fin_latest, y_stand_latest, y_over_latest, y_held_latest, y_M_latest, y_cond_latest, y_pos_latest, y_came_latest, y_kept_latest, y_kEnd_latest, y_kSum_latest, y_kRows_latest, y_fails_latest, y_taken_latest, y_acks_latest, su_latest, d_ins_latest, d_outs_latest, d_hasIn_latest, d_dueS_latest, d_begunS_latest, d_countS_latest, d_credit_latest, d_barS_latest, d_nextS_latest, d_heldS_latest, d_NKs_latest]
    exact ⟨look_ne s v hj, (by trivial), (by trivial), (by trivial)⟩
  · simp only [y_N_latest, y_C_latest, y_fr_latest, y_to_latest, y_tol_latest, y_sum_latest, y_rows_latest, y_ended_latest, y_q_latest, y_log_latest, y_fin_latest, y_stand_latest, y_over_latest, y_held_latest, y_M_latest, y_cond_latest, y_pos_latest, y_came_latest, y_kept_latest, y_kEnd_latest, y_kSum_latest, y_kRows_latest, y_fails_latest, y_taken_latest, y_acks_latest, su_latest, d_ins_latest, d_outs_latest, d_hasIn_latest, d_dueS_latest, d_begunS_latest, d_countS_latest, d_credit_latest, d_barS_latest, d_nextS_latest, d_heldS_latest, d_NKs_latest]
    obtain ⟨h0, h1, h2, h3, h4, h5, h6⟩ := g.T x hx
    unfold cTo
    simp only [qI_wI, qJ_wI, true_and]
    exact ⟨h0, h1, h2, rfl, h4, h5, h6⟩
/-- the acks change -/
theorem ClsG.uacks (g : ClsG e t s Mf due) {l : List (Nat × Nat)} (F : Fr (PO 1 0) t t') (h : cAo t' l) : ClsG e t' (u_acks s l) Mf due := by
  have hs : ∀ k i, k ≠ 1 → same t t' k i := fun k i h => PO.ne F h
  unfold ClsG
  simp only [y_N_acks, y_C_acks, y_fr_acks, y_to_acks, y_tol_acks, y_sum_acks, y_rows_acks, y_ended_acks, y_latest_acks, y_q_acks, y_log_acks, y_fin_acks, y_stand_acks, y_over_acks, y_held_acks, y_M_acks, y_cond_acks, y_pos_acks, y_came_acks, y_kept_acks, y_kEnd_acks, y_kSum_acks, y_kRows_acks, y_fails_acks, y_taken_acks, su_acks, d_ins_acks, d_outs_acks, d_hasIn_acks, d_dueS_acks, d_look_acks, d_begunS_acks, d_countS_acks, d_credit_acks, d_barS_acks, d_nextS_acks, d_heldS_acks, d_NKs_acks]
  exact ⟨g.E, g.R.fr (hs 0 0 (by decide)).2.2.2.2 (fun x => (hs 2 x (by decide)).2.2.2.2), g.B.fr (hs 0 0 (by decide)).1, h, g.T.fr (fun x => hs 2 x (by decide)), g.C.fr (fun c f _ => by rw [(hs 3 c (by decide)).1]) (fun c f _ => by rw [(hs 4 c (by decide)).1]), g.S.fr (fun c => hs 3 c (by decide)), g.L.fr (fun c => hs 4 c (by decide)), g.M.fr (fun m => hs 5 m (by decide))⟩
/-- the class's own numbers change -/
theorem ClsG.uB (g : ClsG e t s Mf due) {f : Nat} {v : Int32} {s' : zSt} (hs' : ∀ e t Mf due, ClsG e t s' Mf due ↔ (cE e (s_N s) (s_C s) (s_fr s) (s_M s) ∧ cR e t (s_N s) (s_C s) (s_fr s) (s_M s) (ins s) (outs s) ∧ cB t (s_C s) (s_M s) (begunS s') (s_tol s') ∧ cAo t (s_acks s) ∧ cT t (s_N s) (ins s) (outs s) (look s) (s_sum s) (s_rows s) (s_ended s) ∧ cC t (s_C s) (s_fr s) (s_to s) (s_held s) (s_over s) ∧ cS t (s_C s) (s_fr s) (s_log s) (s_fin s) (s_stand s) Mf (s_pos s) due ∧ cL t (s_C s) (s_fr s) (s_q s) ∧ cM t (s_M s) (s_N s) (s_kept s) (s_fails s) (s_taken s) (s_kSum s) (s_kRows s) (s_kEnd s) (countS s) (s_cond s))) (hn : cB (wI t 0 0 f v) (s_C s) (s_M s) (begunS s') (s_tol s')) : ClsG e (wI t 0 0 f v) s' Mf due := by
  have hs : ∀ k i, k ≠ 0 → same t (wI t 0 0 f v) k i := fun k i h => PO.ne (fr_p3 (k := 0) (i := 0)) h
  rw [hs']
  exact ⟨g.E, g.R.fr rfl (fun x => rfl), hn, g.A.fr (hs 1 0 (by decide)), g.T.fr (fun x => hs 2 x (by decide)), g.C.fr (fun c f _ => by rw [(hs 3 c (by decide)).1]) (fun c f _ => by rw [(hs 4 c (by decide)).1]), g.S.fr (fun c => hs 3 c (by decide)), g.L.fr (fun c => hs 4 c (by decide)), g.M.fr (fun m => hs 5 m (by decide))⟩
theorem ClsG.utol (g : ClsG e t s Mf due) (b : Bool) : ClsG e (wI t 0 0 9 (b2i b)) (u_tol s b) Mf due := by
  refine g.uB (fun e t Mf due => by unfold ClsG; simp only [y_N_tol, y_C_tol, y_fr_tol, y_to_tol, y_sum_tol, y_rows_tol, y_ended_tol, y_latest_tol, y_q_tol, y_log_tol, y_fin_tol, y_stand_tol, y_over_tol, y_held_tol, y_M_tol, y_cond_tol, y_pos_tol, y_came_tol, y_kept_tol, y_kEnd_tol, y_kSum_tol, y_kRows_tol, y_fails_tol, y_taken_tol, y_acks_tol, su_tol, d_ins_tol, d_outs_tol, d_hasIn_tol, d_dueS_tol, d_look_tol, d_begunS_tol, d_countS_tol, d_credit_tol, d_barS_tol, d_nextS_tol, d_heldS_tol, d_NKs_tol]) ?_
  simp only [y_N_tol, y_C_tol, y_fr_tol, y_to_tol, y_sum_tol, y_rows_tol, y_ended_tol, y_latest_tol, y_q_tol, y_log_tol, y_fin_tol, y_stand_tol, y_over_tol, y_held_tol, y_M_tol, y_cond_tol, y_pos_tol, y_came_tol, y_kept_tol, y_kEnd_tol, y_kSum_tol, y_kRows_tol, y_fails_tol, y_taken_tol, y_acks_tol, su_tol, d_ins_tol, d_outs_tol, d_hasIn_tol, d_dueS_tol, d_look_tol, d_begunS_tol, d_countS_tol, d_credit_tol, d_barS_tol, d_nextS_tol, d_heldS_tol, d_NKs_tol]
  obtain ⟨h0, h1, h2, h3⟩ := g.B
  unfold cB
  simp only [qI_wI, true_and]
  exact ⟨h0, h1, h2, rfl⟩
/-- a mark changes -/
theorem ClsG.umark (g : ClsG e t s Mf due) {m : Nat} (F : Fr (PO 5 m) t t') {s' : zSt} (hs' : ∀ e t Mf due, ClsG e t s' Mf due ↔ (cE e (s_N s) (s_C s) (s_fr s) (s_M s) ∧ cR e t (s_N s) (s_C s) (s_fr s) (s_M s) (ins s) (outs s) ∧ cB t (s_C s) (s_M s) (begunS s) (s_tol s) ∧ cAo t (s_acks s) ∧ cT t (s_N s) (ins s) (outs s) (look s) (s_sum s) (s_rows s) (s_ended s) ∧ cC t (s_C s) (s_fr s) (s_to s) (s_held s) (s_over s) ∧ cS t (s_C s) (s_fr s) (s_log s) (s_fin s) (s_stand s) Mf (s_pos s) due ∧ cL t (s_C s) (s_fr s) (s_q s) ∧ cM t (s_M s) (s_N s) (s_kept s') (s_fails s') (s_taken s') (s_kSum s') (s_kRows s') (s_kEnd s') (countS s') (s_cond s))) (ho : ∀ j, j ≠ m → s_kept s' j = s_kept s j ∧ s_fails s' j = s_fails s j ∧ s_taken s' j = s_taken s j ∧ s_kSum s' j = s_kSum s j ∧ s_kRows s' j = s_kRows s j ∧ s_kEnd s' j = s_kEnd s j ∧ countS s' j = countS s j) (hn : cMo t' m (s_N s) (s_kept s' m) (s_fails s' m) (s_taken s' m) (s_kSum s' m) (s_kRows s' m) (s_kEnd s' m) (countS s' m) (s_cond s m)) : ClsG e t' s' Mf due := by
  have hs : ∀ k i, k ≠ 5 → same t t' k i := fun k i h => PO.ne F h
  rw [hs']
  refine ⟨g.E, g.R.fr (hs 0 0 (by decide)).2.2.2.2 (fun x => (hs 2 x (by decide)).2.2.2.2), g.B.fr (hs 0 0 (by decide)).1, g.A.fr (hs 1 0 (by decide)), g.T.fr (fun x => hs 2 x (by decide)), g.C.fr (fun c f _ => by rw [(hs 3 c (by decide)).1]) (fun c f _ => by rw [(hs 4 c (by decide)).1]), g.S.fr (fun c => hs 3 c (by decide)), g.L.fr (fun c => hs 4 c (by decide)), ?_⟩
  intro j hj
  by_cases q : j = m
  · rw [q]; exact hn
  · obtain ⟨h1, h2, h3, h4, h5, h6, h7⟩ := ho j q
    rw [h1, h2, h3, h4, h5, h6, h7]
    exact (g.M j hj).fr (F.same (fun z => q z.2))
end PO
