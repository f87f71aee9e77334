/-! the class's mark: done -/
section PO
variable {e : pE} {t t' : pS} {s : zSt} {n : Nat}
theorem dueS_le (s : zSt) (c : Nat) : (dueS s c).length ≤ begunS s := by
  unfold dueS begunS
  have : (List.range (s_M s)).filter (fun m => s_cond s m == 0 && !s_came s m c) = ((List.range (s_M s)).filter (fun m => s_cond s m == 0)).filter (fun m => !s_came s m c) := by
    rw [List.filter_filter]
    refine List.filter_congr fun m _ => Bool.and_comm _ _
  rw [this]
  exact List.length_filter_le _ _
theorem dueS_new (hF : FrM s) (c k : Nat) : dueS (posS (u_M (u_tol s true) (s_M s + 1)) (s_M s) k) c = dueS s c ++ [s_M s] := by
  unfold dueS
  rw [z_posS_M, su_M, z_posS_cond, y_cond_M, y_cond_tol, z_posS_came, y_came_M, y_came_tol, List.range_succ, List.filter_append]
  congr 1
  rw [List.filter_cons_of_pos (by rw [hF.1, hF.2.2 c]; rfl)]
  rfl
theorem mkT_fr {M beg : Nat} : Fr PC t (mkT t n M beg) := fun k i h => mkT_same (fun z => h (by show k ≤ 5; omega)) (fun z => h (by show k ≤ 5; omega))
theorem fB_mark_b (g : Cls e t s) (w : Wf s) (hb : 3 ≤ begunS s ∨ 40 ≤ s_M s) : CO (fB_mark (pv e t) n (pL e 0 0 0)) e t n (.inr "java/lang/IllegalStateException") s := by
  refine ⟨t, ?_, g, Fr.refl _ _⟩
  have hM := w.M
  have hb2 := begunS_le w
  have o0 := ClsG.o0 g
  obtain ⟨b6, b7, b8, b9⟩ := ClsG.B g
  unfold fB_mark
  generalize fB_mark_80 zF = R
  rw [f0_8 o0, Option.bind_some, b8]
  by_cases q : 3 ≤ begunS s
  · rw [if_pos (by rw [show (3 : Int32) = nI 3 from rfl, nI_leI (by decide) (by omega)]; exact q)]; rfl
  · rw [if_neg (by rw [show (3 : Int32) = nI 3 from rfl, nI_leI (by decide) (by omega)]; exact q), f0_7 o0, Option.bind_some, b7, if_neg (by rw [show (40 : Int32) = nI 40 from rfl, nI_ltI (by omega) (by decide)]; have := hb.resolve_left q; omega)]; rfl
theorem fB_mark_g (g : Cls e t s) (w : Wf s) (hf : FE e n) (hn : NE e 5 (s_M s)) (h6 : KE e) (hF : FrM s) (hb : begunS s < 3) (hM : s_M s < 40) (hA9 : (s_acks s).length + s_N s ≤ 520) : ∃ t', fB_mark (pv e t) n (pL e 0 0 0) = some (.inl (some (.int (nI (s_M s)))), pv (extE e 5 (s_M s) n (lenM (s_N s))) t', n + 7) ∧ Cls (extE e 5 (s_M s) n (lenM (s_N s))) t' (markS s) ∧ Fr PC t t' := by
  have hN8 := w.N8; have hC := w.C
  have g1 := g.newMark hf hn hF
  have w1 : Wf (u_M (u_tol s true) (s_M s + 1)) := (w.utol (b := true)).uM (by rw [y_M_tol]; exact hM)
  obtain ⟨t2, h2, g2, F2⟩ := fB_mark_80_eq (n := n + 7) (s := u_M (u_tol s true) (s_M s + 1)) (due := dueS s) w1 hM (some (pL (extE e 5 (s_M s) n (lenM (s_N s))) 5 (s_M s) 0)) (fun c => by have := dueS_le s c; omega) (s_C s) 0 _ (fun _ => s_M s) (dueS s) zF (by rw [y_C_M, y_C_tol, Nat.zero_add]) (zF_big (by omega)) (fun j => by rw [if_neg (by omega)]) (fun j => by rw [if_neg (by omega)]) (by rw [posS_0]; exact g1)
  rw [y_C_M, y_C_tol] at g2
  have g3 : Cls (extE e 5 (s_M s) n (lenM (s_N s))) t2 (posS (u_M (u_tol s true) (s_M s + 1)) (s_M s) (s_C s)) := by
    unfold Cls
    rw [z_posS_M, su_M, show dueS (posS (u_M (u_tol s true) (s_M s + 1)) (s_M s) (s_C s)) = fun j => dueS s j ++ [s_M s] from funext fun j => dueS_new hF j _]
    exact g2
  have eN : s_N (posS (u_M (u_tol s true) (s_M s + 1)) (s_M s) (s_C s)) = s_N s := by rw [z_posS_N, y_N_M, y_N_tol]
  have eM : s_M (posS (u_M (u_tol s true) (s_M s + 1)) (s_M s) (s_C s)) = s_M s + 1 := by rw [z_posS_M, su_M]
  have eA : s_acks (posS (u_M (u_tol s true) (s_M s + 1)) (s_M s) (s_C s)) = s_acks s := by rw [z_posS_acks, y_acks_M, y_acks_tol]
  obtain ⟨t3, h3, g4, F3⟩ := fB_mark_106_eq (n := n + 7) (w1.wpos (m := s_M s) (c := s_C s)) (m := s_M s) (by rw [eM]; omega) (by rw [eA, eN]; exact hA9) (s_N s) 0 t2 zF (by rw [eN, Nat.zero_add]) (zF_big (by omega)) g3
  rw [eN] at g4
  refine ⟨t3, ?_, g4, mkT_fr.trans (F2.trans F3)⟩
  rw [fB_mark_run g w hf hn h6 hb hM]
  have h2' : fB_mark_80 zF (pv (extE e 5 (s_M s) n (lenM (s_N s))) (mkT t n (s_M s) (begunS s))) (n + 7) (pL (extE e 5 (s_M s) n (lenM (s_N s))) 0 0 0) (nI (s_M s)) (some (pL (extE e 5 (s_M s) n (lenM (s_N s))) 5 (s_M s) 0)) 0 = _ := h2
  rw [h2']
  exact h3
end PO
