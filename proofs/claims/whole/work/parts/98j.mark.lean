/-! the class's mark: the new mark -/
theorem obj_out {V : zV} {a b : Nat} {l : List zE} {cs : List Nat} (h : b < a) : z_obj (mkm V a l) (some b) cs = z_obj V (some b) cs := by
  unfold z_obj
  rw [Option.bind_some, Option.bind_some, mkm_out V l h]
theorem arr_out {V : zV} {a b : Nat} {l : List zE} {t : Nat} (h : b < a) : z_arr (mkm V a l) (some b) t = z_arr V (some b) t := by
  unfold z_arr
  rw [Option.bind_some, Option.bind_some, mkm_out V l h]
/-- all numbers of the object (k, i) are nought -/
def clr (t : pS) (k i : Nat) : pS := (fun k' i' => if k' = k ∧ i' = i then fun _ => 0 else t.1 k' i', fun k' i' => if k' = k ∧ i' = i then fun _ => 0 else t.2.1 k' i', fun k' i' => if k' = k ∧ i' = i then fun _ _ => 0 else t.2.2.1 k' i', fun k' i' => if k' = k ∧ i' = i then fun _ _ => 0 else t.2.2.2.1 k' i', fun k' i' => if k' = k ∧ i' = i then fun _ _ => none else t.2.2.2.2 k' i')
section PE
variable {e : pE} {t t' : pS} {k i n : Nat} {L : List Nat}
theorem clr_same {k' i' : Nat} (h : ¬ (k' = k ∧ i' = i)) : same t (clr t k i) k' i' := ⟨if_neg h, if_neg h, if_neg h, if_neg h, if_neg h⟩
theorem clr_qI (s : Nat) : qI (clr t k i) k i s = 0 := by
  show (if k = k ∧ i = i then fun _ => 0 else t.1 k i) s = 0
  rw [if_pos ⟨rfl, rfl⟩]
theorem clr_qJ (s : Nat) : qJ (clr t k i) k i s = 0 := by
  show (if k = k ∧ i = i then fun _ => 0 else t.2.1 k i) s = 0
  rw [if_pos ⟨rfl, rfl⟩]
theorem clr_rI (s : Nat) : rI (clr t k i) k i s = fun _ => 0 := by
  show (if k = k ∧ i = i then fun _ _ => 0 else t.2.2.1 k i) s = _
  rw [if_pos ⟨rfl, rfl⟩]
theorem clr_rJ (s : Nat) : rJ (clr t k i) k i s = fun _ => 0 := by
  show (if k = k ∧ i = i then fun _ _ => 0 else t.2.2.2.1 k i) s = _
  rw [if_pos ⟨rfl, rfl⟩]
theorem clr_rR (s : Nat) : rR (clr t k i) k i s = fun _ => none := by
  show (if k = k ∧ i = i then fun _ _ => none else t.2.2.2.2 k i) s = _
  rw [if_pos ⟨rfl, rfl⟩]
def lenM (N : Nat) : List Nat := [0, N, N, N, N, N, N]
theorem new_mark (hf : FE e n) (hn : NE e 5 i) (h6 : KE e) (N : Nat) (m : Int32) : mkm (pv e t) n [.inr (3, [.int m, .ref (n + 1), .ref (n + 2), .ref (n + 3), .ref (n + 4), .ref (n + 5), .ref (n + 6), .int 0, .int 0]), .inl (2, N, oI), .inl (2, N, oI), .inl (2, N, oI), .inl (1, N, oJ), .inl (0, N, oI), .inl (2, N, oI)] = pv (extE e 5 i n (lenM N)) (wI (clr t 5 i) 5 i 0 m) := by
  refine ext_pv hf hn h6 (by omega) (fun k' i' h => (clr_same h).trans (same_wI h)) rfl (fun s hs => ?_)
  have hs7 : s < 7 := hs
  have hl : ∀ s, s < 7 → pL (extE e 5 i n (lenM N)) 5 i s = n + s := fun s h => ext_Ln h
  have hlen : ∀ s, (extE e 5 i n (lenM N)).2.2.2 5 i s = (lenM N).getD s 0 := fun s => if_pos ⟨rfl, rfl⟩
  have h7 : s = 0 ∨ s = 1 ∨ s = 2 ∨ s = 3 ∨ s = 4 ∨ s = 5 ∨ s = 6 := by omega
  rcases h7 with rfl | rfl | rfl | rfl | rfl | rfl | rfl
  · show some _ = some _
    congr 1
    unfold pcell
    simp only [if_true, pfl, pci, hl 1 (by omega), hl 2 (by omega), hl 3 (by omega), hl 4 (by omega), hl 5 (by omega), hl 6 (by omega), qI_wI, clr_qI]
    rfl
  all_goals
    show some _ = some _
    congr 1
    unfold pcell
    simp only [Nat.reduceEqDiff, if_false, hlen, rI_wI, rJ_wI, rR_wI, clr_rI, clr_rJ, clr_rR]
    rfl
end PE
theorem va_up_fu {α : Type} (f : Nat → α) (k : Nat) (v : α) : va_up f k v = fu f k v := rfl
section PO
variable {e : pE} {t t' : pS} {s : zSt} {n N : Nat}
theorem zs0_3 (o : o0K e 0 N) {x a ci : Nat} {fs : List Value} {cs : List Nat} (hx : x < 40) (ho : z_obj (pv e t) (some a) cs = some (a, ci, fs)) : zsR (pv e t) (some (pL e 0 0 3)) 6 cs (nI x) (some a) = some (pv e (uR t 0 0 3 (fu (rR t 0 0 3) x (some a)))) := by
  unfold zsR
  rw [ho, Option.bind_some, ar_0_3 (i0_3 o), n0_3 o]
  show (if nI x < 0 ∨ 40 ≤ (nI x).toNatClampNeg then none else some (z_up _ _ _)) = _
  rw [nI_clamp (by omega), if_neg (by
    rintro (q | q)
    · exact nI_nn (by omega) q
    · omega)]
  rw [pv_up o.1 (i0_3 o) (t' := uR t 0 0 3 (fu (rR t 0 0 3) x (some a))) ?_ (fun y hy => pcell_uR y hy)]
  unfold pcell
  rw [n0_3 o]
  simp [uR, up3_eq, pty, par9, rI, rJ, rR, va_up_fu]
end PO
