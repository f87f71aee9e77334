/-! the class's channel: refused -/
section PO
variable {e : pE} {t : pS} {s : zSt} {n : Nat}
theorem fB_channel_b1 (g : Cls e t s) (w : Wf s) (x : Int32) {y : Int32} (hy : bad y (s_N s)) : CO (fB_channel (pv e t) n (pL e 0 0 0) x y) e t n (.inr "java/lang/IndexOutOfBoundsException") s := by
  refine ⟨t, ?_, g, Fr.refl _ _⟩
  unfold fB_channel
  rw [b0 (ClsG.o0 g), Option.bind_some, fB_taskAt_b g w hy]
  rfl
theorem fB_channel_b2 (g : Cls e t s) (w : Wf s) {x : Int32} {b : Nat} (hb : b < s_N s) (hx : ¬ x = -1) (hx2 : bad x (s_N s)) : CO (fB_channel (pv e t) n (pL e 0 0 0) x (nI b)) e t n (.inr "java/lang/IndexOutOfBoundsException") s := by
  refine ⟨t, ?_, g, Fr.refl _ _⟩
  unfold fB_channel
  rw [b0 (ClsG.o0 g), Option.bind_some, fB_taskAt_g g w hb, zcR_s, if_neg hx, b0 (ClsG.o0 g), Option.bind_some, fB_taskAt_b g w hx2]
  rfl
theorem channel20_n (g : Cls e t s) (w : Wf s) (h : s_tol s = true ∨ s_C s = 16) (x y : Int32) (u v : Option Nat) : fB_channel_20 (pv e t) n (pL e 0 0 0) x y u v = some (.inr "java/lang/IllegalStateException", pv e t, n) := by
  have hC := w.C
  have o0 := ClsG.o0 g
  obtain ⟨b6, b7, b8, b9⟩ := ClsG.B g
  unfold fB_channel_20
  rw [f0_9 o0, Option.bind_some, b9]
  cases ht : s_tol s with
  | true => rw [b2i_t, if_neg (by decide)]; rfl
  | false =>
    have h16 : s_C s = 16 := by
      rcases h with h | h
      · rw [ht] at h; cases h
      · exact h
    rw [b2i_f, if_pos rfl, f0_6 o0, Option.bind_some, b6, h16, if_neg (by decide)]
    rfl
theorem fB_channel_n1 (g : Cls e t s) (w : Wf s) {b : Nat} (hb : b < s_N s) (h : s_tol s = true ∨ s_C s = 16) : CO (fB_channel (pv e t) n (pL e 0 0 0) (-1) (nI b)) e t n (.inr "java/lang/IllegalStateException") s := by
  refine ⟨t, ?_, g, Fr.refl _ _⟩
  unfold fB_channel
  rw [b0 (ClsG.o0 g), Option.bind_some, fB_taskAt_g g w hb, zcR_s, if_pos rfl, channel20_n g w h]
theorem fB_channel_n2 (g : Cls e t s) (w : Wf s) {a b : Nat} (ha : a < s_N s) (hb : b < s_N s) (h : s_tol s = true ∨ s_C s = 16) : CO (fB_channel (pv e t) n (pL e 0 0 0) (nI a) (nI b)) e t n (.inr "java/lang/IllegalStateException") s := by
  refine ⟨t, ?_, g, Fr.refl _ _⟩
  have hN8 := w.N8
  unfold fB_channel
  rw [b0 (ClsG.o0 g), Option.bind_some, fB_taskAt_g g w hb, zcR_s, if_neg (by rw [nI_eqm1 (by omega)]; exact id), b0 (ClsG.o0 g), Option.bind_some, fB_taskAt_g g w ha, zcR_s, channel20_n g w h]
theorem fB_channel_n3 (g : Cls e t s) (w : Wf s) {a b : Nat} (ha : a < s_N s) (hb : b < s_N s) (htl : s_tol s = false) (hC : s_C s < 16) (h : reachS s b a = true ∨ hasIn s a = false) : CO (fB_channel (pv e t) n (pL e 0 0 0) (nI a) (nI b)) e t n (.inr "java/lang/IllegalArgumentException") s := by
  refine ⟨t, ?_, g, Fr.refl _ _⟩
  have hN8 := w.N8
  have o0 := ClsG.o0 g
  have o2a := ClsG.o2 g ha
  have hna := ins_lt w a
  obtain ⟨b6, b7, b8, b9⟩ := ClsG.B g
  rw [htl] at b9
  have hlead := fB_leadsOnTo_eq (n := n) g w hb ha
  unfold fB_channel fB_channel_20
  rw [b0 o0, Option.bind_some, fB_taskAt_g g w hb, zcR_s, if_neg (by rw [nI_eqm1 (by omega)]; exact id), b0 o0, Option.bind_some, fB_taskAt_g g w ha, zcR_s, f0_9 o0, Option.bind_some, b9, b2i_f, if_pos rfl, f0_6 o0, Option.bind_some, b6, if_pos (by rw [show (16 : Int32) = nI 16 from rfl, nI_ltI (by omega) (by decide)]; exact hC), if_neg (by intro z; cases z), f2_3 o2a, Option.bind_some, (ClsG.T g a ha).2.1]
  by_cases q : (ins s a).length = 0
  · rw [if_pos (by rw [q]; rfl)]; rfl
  · have hre : reachS s b a = true := by
      rcases h with h | h
      · exact h
      · exact absurd ((hasIn_len s a).mp h) q
    rw [hre] at hlead
    rw [if_neg (by rw [nI_eq0 (by omega)]; exact q), b0 o0, Option.bind_some, hlead, zcI_s, b2i_t, if_neg (by decide)]
    rfl
/-- the class's side is kept where the reference alone changes -/
theorem Cls.fr6 {t' : pS} (g : Cls e t s) (F : Fr P6 t t') : Cls e t' s := by
  have hs : ∀ k i, k ≠ 6 → same t t' k i := fun k i h => F k i (fun z => h z.1)
  exact ⟨ClsG.E g, (ClsG.R g).fr (hs 0 0 (by decide)).2.2.2.2 (fun x => (hs 2 x (by decide)).2.2.2.2), (ClsG.B g).fr (hs 0 0 (by decide)).1, (ClsG.A g).fr (hs 1 0 (by decide)), (ClsG.T g).fr (fun x => hs 2 x (by decide)), (ClsG.C g).fr (fun c f _ => by rw [(hs 3 c (by decide)).1]) (fun c f _ => by rw [(hs 4 c (by decide)).1]), (ClsG.S g).fr (fun c => hs 3 c (by decide)), (ClsG.L g).fr (fun c => hs 4 c (by decide)), (ClsG.M g).fr (fun m => hs 5 m (by decide))⟩
/-- the reference's side is kept where the class alone changes -/
theorem Mod.frC {t' : pS} (M : Mod t s) (F : Fr PC t t') : Mod t' s := M.fr (F 6 0 (by show ¬ 6 ≤ 5; omega))
end PO
