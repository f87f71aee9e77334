/-! the class's restore: channels, marks, the call -/
section PO
variable {e : pE} {t t' : pS} {s : zSt} {n : Nat} {Mf : Nat → Nat} {due : Nat → List Nat}
set_option maxHeartbeats 2000000 in
theorem back_ch (w : Wf s) {m c : Nat} (g : ClsG e t (backC s m c) Mf due) (hc : c < s_C s) (hMf : ∀ j, Mf j = s_M s) (hm : m < s_M s) : ∃ t1, (if s_fr s c = none then fS_goBack (pv e t) n (pL e 3 c 0) (nI m) else fL_goBack (pv e t) n (pL e 4 c 0) (nI m)) = some (.inl none, pv e t1, n) ∧ ClsG e (wI (wI t1 (chK (s_fr s) c) c 2 (-1)) (chK (s_fr s) c) c 3 (b2i (endF s c))) (backC s m (c + 1)) Mf due ∧ ClsG e (wI t1 (chK (s_fr s) c) c 2 (-1)) (if s_fr s c = none then u_held (u_stand (backC s m c) (fu (s_stand (backC s m c)) c (s_pos s m c))) (fu (s_held (backC s m c)) c none) else u_held (u_q (backC s m c) (fu (s_q (backC s m c)) c [])) (fu (s_held (backC s m c)) c none)) Mf due ∧ Fr PC t t1 := by
  have hcC : c < s_C (backC s m c) := by rw [z_backC_C]; exact hc
  cases hf : s_fr s c with
  | none =>
    rw [if_pos rfl, if_pos rfl]
    have hf3 : s_fr (backC s m c) c = none := by rw [z_backC_fr]; exact hf
    have hS := g.S c hcC hf3
    rw [hMf c] at hS
    obtain ⟨t1, h1, S1, F1, F13⟩ := fS_goBack_eq (n := n) (g.o3 hcC hf3) hS hm
    have S1' : cSo t1 c (s_log (backC s m c) c) (s_fin (backC s m c) c) (s_pos s m c) (Mf c) (fun m_1 => s_pos (backC s m c) m_1 c) (due c) := by
      rw [hMf c]
      have e1 : s_pos (backC s m c) m c = s_pos s m c := by rw [z_backC_pos]
      rw [← e1]
      exact S1
    have g1 := g.ustand F1 F13 S1'
    have g2 := ClsG.uheld g1 (c := c) (by rw [y_C_stand]; exact hcC) none
    rw [y_fr_stand, z_backC_fr, y_held_stand, o2i_n] at g2
    have g3 := ClsG.uover g2 (c := c) (by rw [y_C_held, y_C_stand]; exact hcC) (endF s c)
    rw [y_fr_held, y_fr_stand, z_backC_fr, y_over_held, y_over_stand, backC_t s m c hf (w.src hc hf)] at g3
    exact ⟨t1, h1, g3, g2, F1.c (by decide)⟩
  | some k =>
    rw [if_neg (by intro q; cases q), if_neg (by intro q; cases q)]
    have hf3 : s_fr (backC s m c) c = some k := by rw [z_backC_fr]; exact hf
    have hL := g.L c k hcC hf3
    obtain ⟨t1, h1, L1, F1, F13⟩ := fL_goBack_eq (n := n) (g.o4 hcC hf3) hL (nI m)
    have g1 := g.uq F1 F13 L1
    have g2 := ClsG.uheld g1 (c := c) (by rw [y_C_q]; exact hcC) none
    rw [y_fr_q, z_backC_fr, y_held_q, o2i_n] at g2
    have g3 := ClsG.uover g2 (c := c) (by rw [y_C_held, y_C_q]; exact hcC) (endF s c)
    rw [y_fr_held, y_fr_q, z_backC_fr, y_over_held, y_over_q, backC_l s m c (by rw [hf]; intro q; cases q)] at g3
    exact ⟨t1, h1, g3, g2, F1.c (by decide)⟩
end PO
