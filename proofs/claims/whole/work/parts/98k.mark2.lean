/-! the class's mark: its loops -/
section PO
variable {e : pE} {t t' : pS} {s : zSt} {n : Nat} {Mf : Nat → Nat} {due : Nat → List Nat}
theorem ClsG.uposl (g : ClsG e t s Mf due) {c m v k : Nat} (hf : s_fr s c = some k) : ClsG e t (u_pos s (fu2 (s_pos s) m c v)) Mf due := by
  obtain ⟨h1, h2, h3, h4, h5, h6, h7, h8, h9⟩ := g
  unfold ClsG
  simp only [y_N_pos, y_C_pos, y_fr_pos, y_to_pos, y_tol_pos, y_sum_pos, y_rows_pos, y_ended_pos, y_latest_pos, y_q_pos, y_log_pos, y_fin_pos, y_stand_pos, y_over_pos, y_held_pos, y_M_pos, y_cond_pos, y_came_pos, y_kept_pos, y_kEnd_pos, y_kSum_pos, y_kRows_pos, y_fails_pos, y_taken_pos, y_acks_pos, su_pos, d_ins_pos, d_outs_pos, d_hasIn_pos, d_dueS_pos, d_look_pos, d_begunS_pos, d_countS_pos, d_credit_pos, d_heldS_pos, d_NKs_pos]
  refine ⟨h1, h2, h3, h4, h5, h6, fun j hj hjf => ?_, h8, h9⟩
  have hne : j ≠ c := fun z => by rw [z, hf] at hjf; cases hjf
  have e1 : (fun a => fu2 (s_pos s) m c v a j) = fun a => s_pos s a j := funext fun a => if_neg (fun z => hne z.2)
  rw [e1]
  exact h7 j hj hjf
theorem fu2_col (f : Nat → Nat → Nat) (m c v : Nat) : (fun a => fu2 f m c v a c) = fu (fun a => f a c) m v := by
  funext a
  show (if a = m ∧ c = c then v else f a c) = if a = m then v else f a c
  by_cases q : a = m
  · rw [if_pos ⟨q, rfl⟩, if_pos q]
  · rw [if_neg (fun z => q z.1), if_neg q]
set_option maxHeartbeats 2000000 in
theorem mark80_step (w : Wf s) {m c : Nat} (hm : m < 40) (hc : c < s_C s) (hmf : Mf c = m) (hdl : (due c).length < 3) (g : ClsG e t (posS s m c) Mf due) : ∃ t1, (if s_fr s c = none then fS_beginMark (pv e t) n (pL e 3 c 0) (nI m) else fL_beginMark (pv e t) n (pL e 4 c 0) (nI m)) = some (.inl none, pv e t1, n) ∧ ClsG e t1 (posS s m (c + 1)) (fu Mf c (m + 1)) (fu due c (due c ++ [m])) ∧ Fr PC t t1 := by
  have hcC : c < s_C (posS s m c) := by rw [z_posS_C]; exact hc
  cases hf : s_fr s c with
  | none =>
    rw [if_pos rfl]
    have hf3 : s_fr (posS s m c) c = none := by rw [z_posS_fr]; exact hf
    have hS := g.S c hcC hf3
    rw [hmf] at hS
    obtain ⟨t1, h1, S1, F1, F13⟩ := fS_beginMark_eq (n := n) (g.o3 hcC hf3) hS hm hdl
    rw [← fu2_col] at S1
    have g1 := g.upos F1 F13 S1
    rw [z_posS_log, posS_s] at g1
    exact ⟨t1, h1, g1, F1.c (by decide)⟩
  | some k =>
    rw [if_neg (by intro q; cases q)]
    have hf3 : s_fr (posS s m c) c = some k := by rw [z_posS_fr]; exact hf
    have g1 := g.uposl (c := c) (m := m) (v := (s_log s c).length) hf3
    rw [posS_s] at g1
    refine ⟨t, rfl, g1.cg (fun j hj hjf => ?_), Fr.refl _ _⟩
    have hne : j ≠ c := fun z => by rw [z, z_posS_fr, hf] at hjf; cases hjf
    exact ⟨fu_ne _ _ hne, fu_ne _ _ hne⟩
theorem mark80_run {V V1 : zV} {a0 ch : Nat} {m : Int32} {mk : Option Nat} {c C f : Nat} {arr : Nat} (hC : C ≤ 16) (hc : c < C) (k6 : zgI V (some a0) [5] 6 = some (nI C)) (k1 : zgR V (some a0) [5] 1 = some (some arr)) (ka : zaR V (some arr) 4 (nI c) = some (some ch)) (kd : ∀ K : Option zR → Option zR, ((z_obj V (some ch) [1, 2]).bind fun o => K (if o.2.1 = 1 then fS_beginMark V n o.1 m else fL_beginMark V n o.1 m)) = K (some (.inl none, V1, n))) : fB_mark_80 (f + 1) V n a0 m mk (nI c) = fB_mark_80 f V1 n a0 m mk (nI (c + 1)) := by
  generalize hR : fB_mark_80 f = R
  unfold fB_mark_80
  rw [hR]
  generalize fB_mark_106 zF = R2
  rw [k6, Option.bind_some, if_neg (by rw [nI_leI (by omega) (by omega)]; omega), k1, Option.bind_some, ka, Option.bind_some, kd (fun a => zdV a _), zdV_s, nI_1]
theorem fB_mark_80_eq (w : Wf s) {m : Nat} (hm : m < 40) (mk : Option Nat) (hdl : ∀ c, (due c).length < 3) : ∀ (d c : Nat) (t : pS) (Mf : Nat → Nat) (D : Nat → List Nat) (f : Nat), c + d = s_C s → d < f → (∀ j, Mf j = if j < c then m + 1 else m) → (∀ j, D j = if j < c then due j ++ [m] else due j) → ClsG e t (posS s m c) Mf D → ∃ t', fB_mark_80 f (pv e t) n (pL e 0 0 0) (nI m) mk (nI c) = fB_mark_106 zF (pv e t') n (pL e 0 0 0) (nI m) mk 0 ∧ ClsG e t' (posS s m (s_C s)) (fun _ => m + 1) (fun j => due j ++ [m]) ∧ Fr PC t t' := by
  have hC := w.C
  intro d
  induction d with
  | zero =>
    intro c t Mf D f hc hf hMf hD g
    obtain ⟨f, rfl⟩ : ∃ g, f = g + 1 := ⟨f - 1, by omega⟩
    obtain rfl : c = s_C s := by omega
    have o0 := g.o0
    have h6 := g.B.1
    rw [z_posS_C] at h6
    refine ⟨t, ?_, g.cg (fun j hj _ => ?_), Fr.refl _ _⟩
    · unfold fB_mark_80
      generalize fB_mark_106 zF = R
      rw [f0_6 o0, Option.bind_some, h6, if_pos (Int32.le_refl _)]
    · rw [z_posS_C] at hj
      rw [hMf j, hD j, if_pos hj, if_pos hj]
      exact ⟨rfl, rfl⟩
  | succ d ih =>
    intro c t Mf D f hc hf hMf hD g
    obtain ⟨f, rfl⟩ : ∃ g, f = g + 1 := ⟨f - 1, by omega⟩
    have hcC : c < s_C s := by omega
    have hDc : D c = due c := by rw [hD c, if_neg (by omega)]
    obtain ⟨t1, h1, g1, F1⟩ := mark80_step (n := n) w hm hcC (by rw [hMf c, if_neg (by omega)]) (by rw [hDc]; exact hdl c) g
    rw [hDc] at g1
    obtain ⟨t2, h2, g2, F2⟩ := ih (c + 1) t1 _ _ f (by omega) (by omega) (fun j => by
      by_cases q : j = c
      · rw [q, fu_self, if_pos (by omega)]
      · rw [fu_ne _ _ q, hMf j]
        by_cases q2 : j < c
        · rw [if_pos q2, if_pos (by omega)]
        · rw [if_neg q2, if_neg (by omega)]) (fun j => by
      by_cases q : j = c
      · rw [q, fu_self, if_pos (by omega)]
      · rw [fu_ne _ _ q, hD j]
        by_cases q2 : j < c
        · rw [if_pos q2, if_pos (by omega)]
        · rw [if_neg q2, if_neg (by omega)]) g1
    have o0 := g.o0
    have h6 := g.B.1
    rw [z_posS_C] at h6
    have r2 := g.r2 (c := c) (by rw [z_posS_C]; exact hcC)
    rw [z_posS_fr] at r2
    have hE := g.E
    rw [z_posS_N, z_posS_C, z_posS_fr, z_posS_M] at hE
    have hd := fun K => ch_d (α := zR) (t := t) hE hcC (fun a => fS_beginMark (pv e t) n a (nI m)) (fun a => fL_beginMark (pv e t) n a (nI m)) K
    rw [h1] at hd
    refine ⟨t2, ?_, g2, F1.trans F2⟩
    rw [mark80_run hC hcC (by rw [f0_6 o0, h6]) (f0_1 o0) (by rw [g0_2 o0 (show c < 16 by omega), r2]) hd, h2]
theorem mark106_run {V V1 : zV} {a0 ts : Nat} {m : Int32} {mk : Option Nat} {c N f arr : Nat} {b1 : Bool} {ni : Nat} {b2 : Bool} {l : List Value} (hN : N ≤ 8) (hni : ni ≤ 16) (hc : c < N) (k0 : zgR V (some a0) [5] 0 = some (some arr)) (kl : zalen V (some arr) 3 = some (nI N)) (ka : zaR V (some arr) 3 (nI c) = some (some ts)) (k8 : zgI V (some ts) [4] 8 = some (b2i b1)) (k3 : zgI V (some ts) [4] 3 = some (nI ni)) (hb : b2 = (b1 || decide (ni = 0))) (ko : z_obj V (some a0) [5] = some (a0, 5, l)) (kk : b2 = true → fB_keepAndAck V n a0 mk (some ts) = some (.inl none, V1, n)) (kn : b2 = false → V1 = V) : fB_mark_106 (f + 1) V n a0 m mk (nI c) = fB_mark_106 f V1 n a0 m mk (nI (c + 1)) := by
  generalize hR : fB_mark_106 f = R
  unfold fB_mark_106 fB_mark_139 fB_mark_150
  rw [hR, k0, Option.bind_some, kl, Option.bind_some, if_neg (by rw [nI_leI (by omega) (by omega)]; omega), Option.bind_some, ka, Option.bind_some, k8, Option.bind_some]
  cases b1 with
  | true =>
    have hb2 : b2 = true := by rw [hb]; rfl
    rw [b2i_t, if_neg (by decide), Option.bind_some, ka, Option.bind_some, ko, Option.bind_some, kk hb2, zcV_s, nI_1]
  | false =>
    rw [b2i_f, if_pos rfl, Option.bind_some, ka, Option.bind_some, k3, Option.bind_some]
    by_cases q : ni = 0
    · have hb2 : b2 = true := by rw [hb, q]; rfl
      rw [if_pos (by rw [q]; rfl), Option.bind_some, ka, Option.bind_some, ko, Option.bind_some, kk hb2, zcV_s, nI_1]
    · have hb2 : b2 = false := by rw [hb, decide_eq_false q]; rfl
      rw [if_neg (by rw [nI_eq0 (by omega)]; exact q), kn hb2, nI_1]
end PO
