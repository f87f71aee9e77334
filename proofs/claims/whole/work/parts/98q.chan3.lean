/-! the class's channel: addChannel -/
section PO
variable {e : pE} {t : pS} {s : zSt} {n N : Nat}
def adT (t : pS) (a C ni b : Nat) : pS := wI (uR (wI (uR t 0 0 2 (fu (rR t 0 0 2) C (some a))) 0 0 6 (nI (C + 1))) 2 b 1 (fu (rR t 2 b 1) ni (some a))) 2 b 3 (nI (ni + 1))
theorem fB_addChannel_eq (o0 : o0K e 0 N) {b a C ni : Nat} (o2 : o2K e b 0) (hob : ∀ t, ∃ ci fs, z_obj (pv e t) (some a) [1, 2] = some (a, ci, fs)) (h6 : qI t 0 0 6 = nI C) (hC : C < 16) (h3 : qI t 2 b 3 = nI ni) (hni : ni < 16) : fB_addChannel (pv e t) n (pL e 0 0 0) (some a) (some (pL e 2 b 0)) = some (.inl (some (.int (nI C))), pv e (adT t a C ni b), n) := by
  obtain ⟨ci, fs, hob1⟩ := hob t
  have hs1 := zs0_2 o0 (x := C) hC hob1
  obtain ⟨ci2, fs2, hob2⟩ := hob (wI (uR t 0 0 2 (fu (rR t 0 0 2) C (some a))) 0 0 6 (nI (C + 1)))
  have hs2 := zs2_1 o2 (x := ni) hni hob2
  have q6 : qI (uR t 0 0 2 (fu (rR t 0 0 2) C (some a))) 0 0 6 = nI C := by rw [qI_uR]; exact h6
  have q3 : qI (wI (uR t 0 0 2 (fu (rR t 0 0 2) C (some a))) 0 0 6 (nI (C + 1))) 2 b 3 = nI ni := by rw [qI_wI, if_neg (by omega), qI_uR]; exact h3
  have q3' : qI (uR (wI (uR t 0 0 2 (fu (rR t 0 0 2) C (some a))) 0 0 6 (nI (C + 1))) 2 b 1 (fu (rR (wI (uR t 0 0 2 (fu (rR t 0 0 2) C (some a))) 0 0 6 (nI (C + 1))) 2 b 1) ni (some a))) 2 b 3 = nI ni := by rw [qI_uR]; exact q3
  have hr : rR (wI (uR t 0 0 2 (fu (rR t 0 0 2) C (some a))) 0 0 6 (nI (C + 1))) 2 b 1 = rR t 2 b 1 := by rw [rR_wI, rR_uR, if_neg (by omega)]
  unfold fB_addChannel fT_addInto
  rw [f0_6 o0, Option.bind_some, h6, f0_1 o0, Option.bind_some, a0_2 o0, Option.bind_some, if_neg (by rw [nI_leI (by decide) (by omega)]; omega), Option.bind_some, hs1, Option.bind_some, f0_6 o0, Option.bind_some, q6, nI_1, p0_6 o0, Option.bind_some, b2 o2, Option.bind_some, f2_3 o2, Option.bind_some, q3, f2_1 o2, Option.bind_some, a2_1 o2, Option.bind_some, if_neg (by rw [nI_leI (by decide) (by omega)]; omega), Option.bind_some, Option.bind_some, hs2, Option.bind_some, f2_3 o2, Option.bind_some, q3', nI_1, p2_3 o2, Option.bind_some, hr]
  rfl
theorem adT_same {a C ni b k i : Nat} (h0 : k ≠ 0) (h2 : ¬ (k = 2 ∧ i = b)) : same t (adT t a C ni b) k i := by
  have h0' : ¬ (k = 0 ∧ i = 0) := fun z => h0 z.1
  exact (((same_uR h0').trans (same_wI h0')).trans (same_uR h2)).trans (same_wI h2)
theorem adT_q0 {a C ni b f : Nat} : qI (adT t a C ni b) 0 0 f = if f = 6 then nI (C + 1) else qI t 0 0 f := by
  unfold adT
  rw [qI_wI, if_neg (by omega), qI_uR, qI_wI, qI_uR]
  simp only [true_and]
theorem adT_r0 {a C ni b : Nat} (j : Nat) : rR (adT t a C ni b) 0 0 j = if j = 2 then fu (rR t 0 0 2) C (some a) else rR t 0 0 j := by
  unfold adT
  rw [rR_wI, rR_uR, if_neg (by omega), rR_wI, rR_uR]
  simp only [true_and]
theorem adT_q2 {a C ni b x f : Nat} : qI (adT t a C ni b) 2 x f = if x = b ∧ f = 3 then nI (ni + 1) else qI t 2 x f := by
  unfold adT
  rw [qI_wI, qI_uR, qI_wI, if_neg (by omega : ¬ (2 = 0 ∧ x = 0 ∧ f = 6)), qI_uR]
  simp only [true_and]
theorem adT_j2 {a C ni b : Nat} : qJ (adT t a C ni b) = qJ t := by
  unfold adT
  rw [qJ_wI, qJ_uR, qJ_wI, qJ_uR]
theorem adT_r2 {a C ni b x : Nat} (j : Nat) : rR (adT t a C ni b) 2 x j = if x = b ∧ j = 1 then fu (rR t 2 b 1) ni (some a) else rR t 2 x j := by
  unfold adT
  rw [rR_wI, rR_uR, rR_wI, rR_uR, if_neg (by omega : ¬ (2 = 0 ∧ x = 0 ∧ j = 2))]
  simp only [true_and]
end PO
