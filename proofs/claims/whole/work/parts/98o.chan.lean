/-! the class's channel: cells and names of the new channel; leadsOnTo -/
section PO
variable {e : pE} {t t' : pS} {s : zSt} {n N i : Nat}
theorem zs0_2 (o : o0K e 0 N) {x a ci : Nat} {fs : List Value} {cs : List Nat} (hx : x < 16) (ho : z_obj (pv e t) (some a) cs = some (a, ci, fs)) : zsR (pv e t) (some (pL e 0 0 2)) 4 cs (nI x) (some a) = some (pv e (uR t 0 0 2 (fu (rR t 0 0 2) x (some a)))) := by
  unfold zsR
  rw [ho, Option.bind_some, ar_0_2 (i0_2 o), n0_2 o]
  show (if nI x < 0 ∨ 16 ≤ (nI x).toNatClampNeg then none else some (z_up _ _ _)) = _
  rw [nI_clamp (by omega), if_neg (by
    rintro (q | q)
    · exact nI_nn (by omega) q
    · omega)]
  rw [pv_up o.1 (i0_2 o) (t' := uR t 0 0 2 (fu (rR t 0 0 2) x (some a))) ?_ (fun y hy => pcell_uR y hy)]
  unfold pcell
  rw [n0_2 o]
  simp [uR, up3_eq, pty, par9, rI, rJ, rR, va_up_fu]
theorem zs2_1 (o : o2K e i N) {x a ci : Nat} {fs : List Value} {cs : List Nat} (hx : x < 16) (ho : z_obj (pv e t) (some a) cs = some (a, ci, fs)) : zsR (pv e t) (some (pL e 2 i 1)) 4 cs (nI x) (some a) = some (pv e (uR t 2 i 1 (fu (rR t 2 i 1) x (some a)))) := by
  unfold zsR
  rw [ho, Option.bind_some, ar_2_1 (i2_1 o), n2_1 o]
  show (if nI x < 0 ∨ 16 ≤ (nI x).toNatClampNeg then none else some (z_up _ _ _)) = _
  rw [nI_clamp (by omega), if_neg (by
    rintro (q | q)
    · exact nI_nn (by omega) q
    · omega)]
  rw [pv_up o.1 (i2_1 o) (t' := uR t 2 i 1 (fu (rR t 2 i 1) x (some a))) ?_ (fun y hy => pcell_uR y hy)]
  unfold pcell
  rw [n2_1 o]
  simp [uR, up3_eq, pty, par9, rI, rJ, rR, va_up_fu]
theorem zs2_2 (o : o2K e i N) {x a ci : Nat} {fs : List Value} {cs : List Nat} (hx : x < 16) (ho : z_obj (pv e t) (some a) cs = some (a, ci, fs)) : zsR (pv e t) (some (pL e 2 i 2)) 5 cs (nI x) (some a) = some (pv e (uR t 2 i 2 (fu (rR t 2 i 2) x (some a)))) := by
  unfold zsR
  rw [ho, Option.bind_some, ar_2_2 (i2_2 o), n2_2 o]
  show (if nI x < 0 ∨ 16 ≤ (nI x).toNatClampNeg then none else some (z_up _ _ _)) = _
  rw [nI_clamp (by omega), if_neg (by
    rintro (q | q)
    · exact nI_nn (by omega) q
    · omega)]
  rw [pv_up o.1 (i2_2 o) (t' := uR t 2 i 2 (fu (rR t 2 i 2) x (some a))) ?_ (fun y hy => pcell_uR y hy)]
  unfold pcell
  rw [n2_2 o]
  simp [uR, up3_eq, pty, par9, rI, rJ, rR, va_up_fu]
def lenS : List Nat := [0, 200, 40, 40, 3]
def lenL : List Nat := [0, 9, 9]
theorem new_source (hf : FE e n) (hn : NE e 3 i) (h6 : KE e) (x : Int32) : mkm (pv e t) n [.inr (1, [.int (-1), .int x, .int (-1), .int 0, .ref (n + 1), .ref (n + 2), .ref (n + 3), .ref (n + 4), .int 0, .int 0, .long 0, .int 0, .int 0]), .inl (1, 200, oJ), .inl (0, 40, oI), .inl (1, 40, oJ), .inl (0, 3, oI)] = pv (extE e 3 i n lenS) (wI (wI (wI (clr t 3 i) 3 i 0 (-1)) 3 i 1 x) 3 i 2 (-1)) := by
  refine ext_pv hf hn h6 (by omega) (fun k' i' h => (((clr_same h).trans (same_wI h)).trans (same_wI h)).trans (same_wI h)) rfl (fun s hs => ?_)
  have hs7 : s < 5 := hs
  have hl : ∀ s, s < 5 → pL (extE e 3 i n lenS) 3 i s = n + s := fun s h => ext_Ln h
  have hlen : ∀ s, (extE e 3 i n lenS).2.2.2 3 i s = lenS.getD s 0 := fun s => if_pos ⟨rfl, rfl⟩
  have h7 : s = 0 ∨ s = 1 ∨ s = 2 ∨ s = 3 ∨ s = 4 := by omega
  rcases h7 with rfl | rfl | rfl | rfl | rfl
  · show some _ = some _
    congr 1
    unfold pcell
    simp only [if_true, pfl, pci, hl 1 (by omega), hl 2 (by omega), hl 3 (by omega), hl 4 (by omega), qI_wI, qJ_wI, clr_qI, clr_qJ]
    rfl
  all_goals
    show some _ = some _
    congr 1
    unfold pcell
    simp only [Nat.reduceEqDiff, if_false, hlen, rI_wI, rJ_wI, rR_wI, clr_rI, clr_rJ, clr_rR]
    rfl
theorem new_line (hf : FE e n) (hn : NE e 4 i) (h6 : KE e) (x y : Int32) : mkm (pv e t) n [.inr (2, [.int x, .int y, .int (-1), .int 0, .ref (n + 1), .ref (n + 2), .int 0]), .inl (0, 9, oI), .inl (1, 9, oJ)] = pv (extE e 4 i n lenL) (wI (wI (wI (clr t 4 i) 4 i 0 x) 4 i 1 y) 4 i 2 (-1)) := by
  refine ext_pv hf hn h6 (by omega) (fun k' i' h => (((clr_same h).trans (same_wI h)).trans (same_wI h)).trans (same_wI h)) rfl (fun s hs => ?_)
  have hs7 : s < 3 := hs
  have hl : ∀ s, s < 3 → pL (extE e 4 i n lenL) 4 i s = n + s := fun s h => ext_Ln h
  have hlen : ∀ s, (extE e 4 i n lenL).2.2.2 4 i s = lenL.getD s 0 := fun s => if_pos ⟨rfl, rfl⟩
  have h7 : s = 0 ∨ s = 1 ∨ s = 2 := by omega
  rcases h7 with rfl | rfl | rfl
  · show some _ = some _
    congr 1
    unfold pcell
    simp only [if_true, pfl, pci, hl 1 (by omega), hl 2 (by omega), qI_wI, clr_qI]
    rfl
  all_goals
    show some _ = some _
    congr 1
    unfold pcell
    simp only [Nat.reduceEqDiff, if_false, hlen, rI_wI, rJ_wI, rR_wI, clr_rI, clr_rJ, clr_rR]
    rfl
theorem leads20 {Mf : Nat → Nat} {due : Nat → List Nat} (g : ClsG e t s Mf due) (w : Wf s) (K : zV → Nat → Nat → Int32 → Int32 → Int32 → Option zR) (x2 x4 : Int32) : ∀ (d c : Nat) (a : Int32) (F : Nat → Bool) (f : Nat), c + d = s_C s → d < f → rep a F → ∃ a', fB_leadsOnTo_20 K f (pv e t) n (pL e 0 0 0) x2 a x4 (nI c) = K (pv e t) n (pL e 0 0 0) x2 a' (x4 + 1) ∧ rep a' ((List.range' c d).foldl (rC s) F) := by
  have hC := w.C; have hN8 := w.N8
  have o0 := g.o0
  have h6 := g.B.1
  intro d
  induction d with
  | zero =>
    intro c a F f hc hf hr
    obtain ⟨f, rfl⟩ : ∃ g, f = g + 1 := ⟨f - 1, by omega⟩
    refine ⟨a, ?_, hr⟩
    unfold fB_leadsOnTo_20
    rw [f0_6 o0, Option.bind_some, h6, if_pos (by rw [nI_leI (by omega) (by omega)]; omega)]
  | succ d ih =>
    intro c a F f hc hf hr
    obtain ⟨f, rfl⟩ : ∃ g, f = g + 1 := ⟨f - 1, by omega⟩
    have hcC : c < s_C s := by omega
    have hto := w.to hcC
    have ih2 := fun a F => ih (c + 1) a F f (by omega) (by omega)
    clear ih
    rw [List.range'_succ, List.foldl_cons]
    unfold fB_leadsOnTo_20 fB_leadsOnTo_69
    generalize fB_leadsOnTo_20 K f = R at ih2 ⊢
    rw [f0_6 o0, Option.bind_some, h6, if_neg (by rw [nI_leI (by omega) (by omega)]; omega), f0_1 o0, Option.bind_some, g0_2 o0 (show c < 16 by omega), Option.bind_some, g.r2 hcC, g.fc0 hcC, Option.bind_some, nI_1]
    cases hf2 : s_fr s c with
    | none =>
      have e1 : rC s F c = F := by unfold rC; rw [hf2]
      rw [e1, o2i_n, if_pos rfl]
      exact ih2 a F hr
    | some k =>
      have hk := w.fr hcC hf2
      have hk8 : k < 8 := by omega
      have e1 : rC s F c = if F k = true then fu F (s_to s c) true else F := by unfold rC; rw [hf2]
      rw [e1, o2i_s, if_neg (by rw [nI_eqm1 (by omega)]; exact id), Option.bind_some]
      by_cases hq : F k = true
      · rw [if_pos hq, if_neg (by rw [bit_and0 a hk8, hr k hk8, hq]; decide), g.fc1 hcC, Option.bind_some]
        exact ih2 _ _ (rep_or hr (by omega))
      · have hqf : F k = false := by cases hx : F k with
          | false => rfl
          | true => exact absurd hx hq
        rw [if_neg hq, if_pos (by rw [bit_and0 a hk8, hr k hk8]; exact hqf)]
        exact ih2 a F hr
theorem leads7 {Mf : Nat → Nat} {due : Nat → List Nat} (g : ClsG e t s Mf due) (w : Wf s) {y : Nat} (hy : y < s_N s) : ∀ (d c : Nat) (a : Int32) (F : Nat → Bool) (f : Nat), c + d = s_N s → d < f → rep a F → fB_leadsOnTo_7 f (pv e t) n (pL e 0 0 0) (nI y) a (nI c) = some (.inl (some (.int (b2i (rIt s d F y)))), pv e t, n) := by
  have hC := w.C; have hN8 := w.N8
  have o0 := g.o0
  intro d
  induction d with
  | zero =>
    intro c a F f hc hf hr
    obtain ⟨f, rfl⟩ : ∃ g, f = g + 1 := ⟨f - 1, by omega⟩
    unfold fB_leadsOnTo_7
    generalize fB_leadsOnTo_20 (fB_leadsOnTo_7 f) zF = R
    rw [f0_0 o0, Option.bind_some, a0_1 o0, Option.bind_some, if_pos (by rw [nI_leI (by omega) (by omega)]; omega)]
    have hb := bit_and0 a (show y < 8 by omega)
    rw [hr y (by omega)] at hb
    show (if a &&& 1 <<< (nI y &&& 31) = 0 then zrZ 0 (pv e t) n else zrZ 1 (pv e t) n) = some (.inl (some (.int (b2i (F y)))), pv e t, n)
    cases hx : F y with
    | false => rw [if_pos (hb.mpr hx)]; rfl
    | true => rw [if_neg (fun z => by rw [hb.mp z] at hx; cases hx)]; rfl
  | succ d ih =>
    intro c a F f hc hf hr
    obtain ⟨f, rfl⟩ : ∃ g, f = g + 1 := ⟨f - 1, by omega⟩
    obtain ⟨a1, h1, r1⟩ := leads20 (n := n) g w (fB_leadsOnTo_7 f) (nI y) (nI c) (s_C s) 0 a F zF (Nat.zero_add _) (zF_big (by omega)) hr
    have h1' : fB_leadsOnTo_20 (fB_leadsOnTo_7 f) zF (pv e t) n (pL e 0 0 0) (nI y) a (nI c) 0 = fB_leadsOnTo_7 f (pv e t) n (pL e 0 0 0) (nI y) a1 (nI c + 1) := h1
    have h2 := ih (c + 1) a1 _ f (by omega) (by omega) r1
    have e9 : rIt s (d + 1) F = rIt s d ((List.range' 0 (s_C s)).foldl (rC s) F) := rfl
    rw [e9]
    rw [← h2, ← nI_1, ← h1']
    generalize hR : fB_leadsOnTo_20 (fB_leadsOnTo_7 f) zF = R
    unfold fB_leadsOnTo_7
    rw [hR, f0_0 o0, Option.bind_some, a0_1 o0, Option.bind_some, if_neg (by rw [nI_leI (by omega) (by omega)]; omega)]
theorem fB_leadsOnTo_eq {Mf : Nat → Nat} {due : Nat → List Nat} (g : ClsG e t s Mf due) (w : Wf s) {x y : Nat} (hx : x < s_N s) (hy : y < s_N s) : fB_leadsOnTo (pv e t) n (pL e 0 0 0) (nI x) (nI y) = some (.inl (some (.int (b2i (reachS s x y)))), pv e t, n) := by
  have hN8 := w.N8
  have h1 := leads7 (n := n) g w hy (s_N s) 0 _ _ zF (Nat.zero_add _) (zF_big (by omega)) (rep_one (show x < 8 by omega))
  unfold reachS
  rw [← h1]
  unfold fB_leadsOnTo
  generalize fB_leadsOnTo_7 zF = R
  rfl
end PO
