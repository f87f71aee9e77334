/-! the class's mark: the call -/
section PO
variable {e : pE} {t t' : pS} {s : zSt} {n : Nat}
theorem kM_due (s : zSt) (m k : Nat) : dueS (keepM m k s) = dueS s := by
  induction k with
  | zero => rfl
  | succ k ih =>
    rw [keepM_s]
    split
    · rw [dueS_keep]; exact ih
    · exact ih
theorem fB_mark_106_eq (w : Wf s) {m : Nat} (hm : m < s_M s) (hA9 : (s_acks s).length + s_N s ≤ 520) : ∀ (d c : Nat) (t : pS) (f : Nat), c + d = s_N s → d < f → Cls e t (keepM m c s) → ∃ t', fB_mark_106 f (pv e t) n (pL e 0 0 0) (nI m) (some (pL e 5 m 0)) (nI c) = some (.inl (some (.int (nI m))), pv e t', n) ∧ Cls e t' (keepM m (s_N s) s) ∧ Fr PC t t' := by
  have hN8 := w.N8
  intro d
  induction d with
  | zero =>
    intro c t f hc hf g
    obtain ⟨f, rfl⟩ : ∃ g, f = g + 1 := ⟨f - 1, by omega⟩
    obtain rfl : c = s_N s := by omega
    have o0 := ClsG.o0 g
    rw [kM_N] at o0
    refine ⟨t, ?_, g, Fr.refl _ _⟩
    unfold fB_mark_106
    rw [f0_0 o0, Option.bind_some, a0_1 o0, Option.bind_some, if_pos (Int32.le_refl _)]
    rfl
  | succ d ih =>
    intro c t f hc hf g
    obtain ⟨f, rfl⟩ : ∃ g, f = g + 1 := ⟨f - 1, by omega⟩
    have hcN : c < s_N (keepM m c s) := by rw [kM_N]; omega
    have hmM : m < s_M (keepM m c s) := by rw [kM_M]; exact hm
    have hN : s_N s < 2 ^ 31 := by omega
    have w2 : Wf (keepM m c s) := w.kM hm (by omega) (by omega)
    have hA2 := kM_a s m c
    have o0 := ClsG.o0 g
    rw [kM_N] at o0
    have o2 := ClsG.o2 g hcN
    obtain ⟨a0, a1, a2, a3, a4, a5, a6⟩ := ClsG.T g c hcN
    have r1 := ClsG.r1 g hcN
    have hl16 := ins_le w2 c
    obtain ⟨t1, h1, g1, F1⟩ := fB_keepAndAck_eq (n := n) g w2 hmM hcN (by omega)
    have g1' : Cls e t1 (keepS (keepM m c s) m c) := by
      unfold Cls
      rw [z_keepS_M, dueS_keep]
      exact g1
    have hkl : c < s_N s := by omega
    have run := fun (V1 : zV) (b2 : Bool) (hb : b2 = (s_ended (keepM m c s) c || decide ((ins (keepM m c s) c).length = 0))) (kk : b2 = true → fB_keepAndAck (pv e t) n (pL e 0 0 0) (some (pL e 5 m 0)) (some (pL e 2 c 0)) = some (.inl none, V1, n)) (kn : b2 = false → V1 = pv e t) => mark106_run (f := f) (m := nI m) hN8 hl16 hkl (f0_0 o0) (a0_1 o0) (by rw [g0_1 o0 hN hkl, r1]) (by rw [f2_8 o2, a6]) (by rw [f2_3 o2, a1]) hb (b0 o0) kk kn
    by_cases q : s_ended (keepM m c s) c = true ∨ hasIn (keepM m c s) c = false
    · obtain ⟨t3, h3, g3, F3⟩ := ih (c + 1) t1 f (by omega) (by omega) (by rw [keepM_s, if_pos q]; exact g1')
      refine ⟨t3, ?_, g3, F1.trans F3⟩
      rw [← h3]
      refine run _ true ?_ (fun _ => h1) (fun z => by cases z)
      rcases q with q | q
      · rw [q]; rfl
      · rw [decide_eq_true ((hasIn_len _ _).mp q), Bool.or_true]
    · obtain ⟨t3, h3, g3, F3⟩ := ih (c + 1) t f (by omega) (by omega) (by rw [keepM_s, if_neg q]; exact g)
      refine ⟨t3, ?_, g3, F3⟩
      rw [← h3]
      refine run _ false ?_ (fun z => by cases z) (fun _ => rfl)
      have q1 : s_ended (keepM m c s) c = false := by
        cases hx : s_ended (keepM m c s) c with
        | false => rfl
        | true => exact absurd (Or.inl hx) q
      have q2 : ¬ (ins (keepM m c s) c).length = 0 := fun z => q (Or.inr ((hasIn_len _ _).mpr z))
      rw [q1, decide_eq_false q2]
      rfl
end PO
