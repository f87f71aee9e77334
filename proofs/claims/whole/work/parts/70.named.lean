/-! THE NAMED HEAP: a cell's name is (kind, number, sub-cell): kinds 0 the class's object, 1 its acks, 2 tasks, 3 sources, 4 lines (both by the channel's number), 5 marks, 6 the reference; sub-cell 0 the object, the others its arrays -/
abbrev pN : Type := Nat × Nat × Nat
/-- numbers: int fields, long fields, int arrays, long arrays, arrays of references -/
abbrev pS : Type := (Nat → Nat → Nat → Int32) × (Nat → Nat → Nat → Int64) × (Nat → Nat → Nat → Nat → Int32) × (Nat → Nat → Nat → Nat → Int64) × (Nat → Nat → Nat → Nat → Option Nat)
/-- the rest of the heap, addresses of names, names of addresses, lengths -/
abbrev pE : Type := zV × (pN → Nat) × (Nat → Option pN) × (Nat → Nat → Nat → Nat)
def pL (e : pE) (k i s : Nat) : Nat := e.2.1 (k, i, s)
def pIs (e : pE) (k i s : Nat) : Prop := e.2.2.1 (pL e k i s) = some (k, i, s)
def pOk (e : pE) : Prop := ∀ a x, e.2.2.1 a = some x → a = e.2.1 x
def qI (t : pS) : Nat → Nat → Nat → Int32 := t.1
def qJ (t : pS) : Nat → Nat → Nat → Int64 := t.2.1
def rI (t : pS) : Nat → Nat → Nat → Nat → Int32 := t.2.2.1
def rJ (t : pS) : Nat → Nat → Nat → Nat → Int64 := t.2.2.2.1
def rR (t : pS) : Nat → Nat → Nat → Nat → Option Nat := t.2.2.2.2
def up3 {α : Type} (f : Nat → Nat → Nat → α) (k i s : Nat) (v : α) : Nat → Nat → Nat → α := fun k' i' s' => if k' = k ∧ i' = i ∧ s' = s then v else f k' i' s'
def wI (t : pS) (k i f : Nat) (v : Int32) : pS := (up3 t.1 k i f v, t.2)
def wJ (t : pS) (k i f : Nat) (v : Int64) : pS := (t.1, up3 t.2.1 k i f v, t.2.2)
def uI (t : pS) (k i s : Nat) (v : Nat → Int32) : pS := (t.1, t.2.1, up3 t.2.2.1 k i s v, t.2.2.2)
def uJ (t : pS) (k i s : Nat) (v : Nat → Int64) : pS := (t.1, t.2.1, t.2.2.1, up3 t.2.2.2.1 k i s v, t.2.2.2.2)
def uR (t : pS) (k i s : Nat) (v : Nat → Option Nat) : pS := (t.1, t.2.1, t.2.2.1, t.2.2.2.1, up3 t.2.2.2.2 k i s v)
def pci : Nat → Nat
  | 0 => 5
  | 1 => 0
  | 2 => 4
  | 3 => 1
  | 4 => 2
  | 5 => 3
  | _ => 6
/-- the fields of an object of the kind k -/
def pfl (e : pE) (k i : Nat) (g : Nat → Int32) (h : Nat → Int64) : List Value := match k with
  | 0 => [.ref (pL e 0 i 1), .ref (pL e 0 i 2), .ref (pL e 0 i 3), .ref (pL e 1 0 0), .ref (pL e 0 i 4), .ref (pL e 0 i 5), .int (g 6), .int (g 7), .int (g 8), .int (g 9)]
  | 1 => [.ref (pL e 1 i 1), .ref (pL e 1 i 2), .int (g 2), .int (g 3)]
  | 2 => [.int (g 0), .ref (pL e 2 i 1), .ref (pL e 2 i 2), .int (g 3), .int (g 4), .int (g 5), .long (h 6), .int (g 7), .int (g 8)]
  | 3 => [.int (g 0), .int (g 1), .int (g 2), .int (g 3), .ref (pL e 3 i 1), .ref (pL e 3 i 2), .ref (pL e 3 i 3), .ref (pL e 3 i 4), .int (g 8), .int (g 9), .long (h 10), .int (g 11), .int (g 12)]
  | 4 => [.int (g 0), .int (g 1), .int (g 2), .int (g 3), .ref (pL e 4 i 1), .ref (pL e 4 i 2), .int (g 6)]
  | 5 => [.int (g 0), .ref (pL e 5 i 1), .ref (pL e 5 i 2), .ref (pL e 5 i 3), .ref (pL e 5 i 4), .ref (pL e 5 i 5), .ref (pL e 5 i 6), .int (g 7), .int (g 8)]
  | _ => [.int (g 0), .int (g 1), .int (g 2), .ref (pL e 6 i 1), .ref (pL e 6 i 2), .ref (pL e 6 i 3), .ref (pL e 6 i 4), .int (g 7), .ref (pL e 6 i 5), .ref (pL e 6 i 6), .ref (pL e 6 i 7), .ref (pL e 6 i 8), .ref (pL e 6 i 9), .ref (pL e 6 i 10), .ref (pL e 6 i 11), .ref (pL e 6 i 12), .ref (pL e 6 i 13), .ref (pL e 6 i 14), .ref (pL e 6 i 15), .int (g 19), .ref (pL e 6 i 16), .ref (pL e 6 i 17), .ref (pL e 6 i 18), .ref (pL e 6 i 19), .ref (pL e 6 i 20), .ref (pL e 6 i 21), .ref (pL e 6 i 22), .ref (pL e 6 i 23), .ref (pL e 6 i 24), .int (g 29), .ref (pL e 6 i 25), .ref (pL e 6 i 26), .ref (pL e 6 i 27), .ref (pL e 6 i 28)]
/-- the type of an array: 0 ints, 1 longs, 2 references; its tag -/
def pty : Nat → Nat → Nat × Nat
  | 0, 1 => (2, 3)
  | 0, 2 => (2, 4)
  | 0, 3 => (2, 6)
  | 0, 4 => (1, 1)
  | 0, 5 => (0, 0)
  | 1, 1 => (0, 0)
  | 1, 2 => (0, 0)
  | 2, 1 => (2, 4)
  | 2, 2 => (2, 5)
  | 3, 1 => (1, 1)
  | 3, 2 => (0, 0)
  | 3, 3 => (1, 1)
  | 3, 4 => (0, 0)
  | 4, 1 => (0, 0)
  | 4, 2 => (1, 1)
  | 5, 1 => (0, 2)
  | 5, 2 => (0, 2)
  | 5, 3 => (0, 2)
  | 5, 4 => (1, 1)
  | 5, 5 => (0, 0)
  | 5, 6 => (0, 2)
  | 6, 1 => (1, 1)
  | 6, 2 => (0, 0)
  | 6, 3 => (0, 2)
  | 6, 4 => (0, 0)
  | 6, 5 => (0, 0)
  | 6, 6 => (0, 0)
  | 6, 7 => (0, 0)
  | 6, 8 => (1, 1)
  | 6, 9 => (0, 0)
  | 6, 10 => (1, 1)
  | 6, 11 => (0, 0)
  | 6, 12 => (0, 2)
  | 6, 13 => (0, 0)
  | 6, 14 => (0, 2)
  | 6, 15 => (0, 0)
  | 6, 16 => (0, 0)
  | 6, 17 => (0, 0)
  | 6, 18 => (0, 2)
  | 6, 19 => (0, 2)
  | 6, 20 => (0, 2)
  | 6, 21 => (1, 1)
  | 6, 22 => (0, 0)
  | 6, 23 => (0, 2)
  | 6, 24 => (0, 2)
  | 6, 25 => (0, 0)
  | 6, 26 => (0, 0)
  | 6, 27 => (1, 1)
  | 6, 28 => (1, 1)
  | _, _ => (0, 0)
def par9 (ty : Nat) (a : Nat → Int32) (b : Nat → Int64) (c : Nat → Option Nat) : (Nat → Int32) ⊕ (Nat → Int64) ⊕ (Nat → UInt32) ⊕ (Nat → UInt64) ⊕ (Nat → Option Nat) := if ty = 0 then .inl a else if ty = 1 then .inr (.inl b) else .inr (.inr (.inr (.inr c)))
def pcell (e : pE) (t : pS) (x : pN) : zE := if x.2.2 = 0 then .inr (pci x.1, pfl e x.1 x.2.1 (qI t x.1 x.2.1) (qJ t x.1 x.2.1)) else .inl ((pty x.1 x.2.2).2, e.2.2.2 x.1 x.2.1 x.2.2, par9 (pty x.1 x.2.2).1 (rI t x.1 x.2.1 x.2.2) (rJ t x.1 x.2.1 x.2.2) (rR t x.1 x.2.1 x.2.2))
def pv (e : pE) (t : pS) : zV := fun a => match e.2.2.1 a with
  | some x => some (pcell e t x)
  | none => e.1 a
theorem pv_at {e : pE} {t : pS} {k i s : Nat} (h : pIs e k i s) : pv e t (pL e k i s) = some (pcell e t (k, i, s)) := by
  unfold pv; unfold pIs at h; rw [h]
theorem pv_up {e : pE} {t t' : pS} {k i s : Nat} {c : zE} (ho : pOk e) (h : pIs e k i s) (hc : pcell e t' (k, i, s) = c) (hn : ∀ y, y ≠ (k, i, s) → pcell e t' y = pcell e t y) : z_up (pv e t) (pL e k i s) c = pv e t' := by
  funext a
  unfold z_up
  by_cases ha : a = pL e k i s
  · rw [if_pos ha, ha, pv_at h, hc]
  · rw [if_neg ha]
    unfold pv
    cases hN : e.2.2.1 a with
    | none => rfl
    | some y =>
      have hy : y ≠ (k, i, s) := fun q => ha (by rw [ho a y hN, q]; rfl)
      show some (pcell e t y) = some (pcell e t' y)
      rw [hn y hy]
theorem up3_ne {α : Type} {f : Nat → Nat → Nat → α} {k i s : Nat} {v : α} {k' i' : Nat} (h : ¬ (k' = k ∧ i' = i)) : up3 f k i s v k' i' = f k' i' := by
  funext s'
  unfold up3
  exact if_neg (fun q => h ⟨q.1, q.2.1⟩)
theorem up3_ne3 {α : Type} {f : Nat → Nat → Nat → α} {k i s : Nat} {v : α} {k' i' s' : Nat} (h : ¬ (k' = k ∧ i' = i ∧ s' = s)) : up3 f k i s v k' i' s' = f k' i' s' := by
  unfold up3
  exact if_neg h
theorem up3_eq {α : Type} {f : Nat → Nat → Nat → α} {k i s : Nat} {v : α} : up3 f k i s v k i s = v := by
  unfold up3
  exact if_pos ⟨rfl, rfl, rfl⟩
theorem pcell_wI {e : pE} {t : pS} {k i f : Nat} {v : Int32} (y : pN) (h : y ≠ (k, i, 0)) : pcell e (wI t k i f v) y = pcell e t y := by
  obtain ⟨k', i', s'⟩ := y
  unfold pcell
  by_cases hs : s' = 0
  · have hk : ¬ (k' = k ∧ i' = i) := fun q => h (by rw [q.1, q.2, hs])
    simp only [hs, if_true]
    show Sum.inr (_, pfl _ _ _ (up3 t.1 k i f v k' i') _) = _
    rw [up3_ne hk]; rfl
  · simp only [hs, if_false]; rfl
theorem pcell_wJ {e : pE} {t : pS} {k i f : Nat} {v : Int64} (y : pN) (h : y ≠ (k, i, 0)) : pcell e (wJ t k i f v) y = pcell e t y := by
  obtain ⟨k', i', s'⟩ := y
  unfold pcell
  by_cases hs : s' = 0
  · have hk : ¬ (k' = k ∧ i' = i) := fun q => h (by rw [q.1, q.2, hs])
    simp only [hs, if_true]
    show Sum.inr (_, pfl _ _ _ _ (up3 t.2.1 k i f v k' i')) = _
    rw [up3_ne hk]; rfl
  · simp only [hs, if_false]; rfl
theorem pcell_uI {e : pE} {t : pS} {k i s : Nat} {v : Nat → Int32} (y : pN) (h : y ≠ (k, i, s)) : pcell e (uI t k i s v) y = pcell e t y := by
  obtain ⟨k', i', s'⟩ := y
  have hk : ¬ (k' = k ∧ i' = i ∧ s' = s) := fun q => h (by rw [q.1, q.2.1, q.2.2])
  have e1 : rI (uI t k i s v) k' i' s' = rI t k' i' s' := up3_ne3 hk
  unfold pcell
  dsimp only
  rw [e1]; rfl
theorem pcell_uJ {e : pE} {t : pS} {k i s : Nat} {v : Nat → Int64} (y : pN) (h : y ≠ (k, i, s)) : pcell e (uJ t k i s v) y = pcell e t y := by
  obtain ⟨k', i', s'⟩ := y
  have hk : ¬ (k' = k ∧ i' = i ∧ s' = s) := fun q => h (by rw [q.1, q.2.1, q.2.2])
  have e1 : rJ (uJ t k i s v) k' i' s' = rJ t k' i' s' := up3_ne3 hk
  unfold pcell
  dsimp only
  rw [e1]; rfl
theorem pcell_uR {e : pE} {t : pS} {k i s : Nat} {v : Nat → Option Nat} (y : pN) (h : y ≠ (k, i, s)) : pcell e (uR t k i s v) y = pcell e t y := by
  obtain ⟨k', i', s'⟩ := y
  have hk : ¬ (k' = k ∧ i' = i ∧ s' = s) := fun q => h (by rw [q.1, q.2.1, q.2.2])
  have e1 : rR (uR t k i s v) k' i' s' = rR t k' i' s' := up3_ne3 hk
  unfold pcell
  dsimp only
  rw [e1]; rfl
theorem ob_0 {e : pE} {t : pS} {i : Nat} (h : pIs e 0 i 0) : z_obj (pv e t) (some (pL e 0 i 0)) [5] = some (pL e 0 i 0, 5, pfl e 0 i (qI t 0 i) (qJ t 0 i)) := by
  unfold z_obj
  simp only [Option.bind_some, pv_at h]
  rfl
theorem gf_0_0 {e : pE} {t : pS} {i : Nat} (h : pIs e 0 i 0) : zgR (pv e t) (some (pL e 0 i 0)) [5] 0 = some (some ((pL e 0 i 1))) := by
  unfold zgR
  rw [ob_0 h]
  rfl
theorem gf_0_1 {e : pE} {t : pS} {i : Nat} (h : pIs e 0 i 0) : zgR (pv e t) (some (pL e 0 i 0)) [5] 1 = some (some ((pL e 0 i 2))) := by
  unfold zgR
  rw [ob_0 h]
  rfl
theorem gf_0_2 {e : pE} {t : pS} {i : Nat} (h : pIs e 0 i 0) : zgR (pv e t) (some (pL e 0 i 0)) [5] 2 = some (some ((pL e 0 i 3))) := by
  unfold zgR
  rw [ob_0 h]
  rfl
theorem gf_0_3 {e : pE} {t : pS} {i : Nat} (h : pIs e 0 i 0) : zgR (pv e t) (some (pL e 0 i 0)) [5] 3 = some (some ((pL e 1 0 0))) := by
  unfold zgR
  rw [ob_0 h]
  rfl
theorem gf_0_4 {e : pE} {t : pS} {i : Nat} (h : pIs e 0 i 0) : zgR (pv e t) (some (pL e 0 i 0)) [5] 4 = some (some ((pL e 0 i 4))) := by
  unfold zgR
  rw [ob_0 h]
  rfl
theorem gf_0_5 {e : pE} {t : pS} {i : Nat} (h : pIs e 0 i 0) : zgR (pv e t) (some (pL e 0 i 0)) [5] 5 = some (some ((pL e 0 i 5))) := by
  unfold zgR
  rw [ob_0 h]
  rfl
theorem gf_0_6 {e : pE} {t : pS} {i : Nat} (h : pIs e 0 i 0) : zgI (pv e t) (some (pL e 0 i 0)) [5] 6 = some (qI t 0 i 6) := by
  unfold zgI
  rw [ob_0 h]
  rfl
theorem pf_0_6 {e : pE} {t : pS} {i : Nat} (ho : pOk e) (h : pIs e 0 i 0) (v : Int32) : zpI (pv e t) (some (pL e 0 i 0)) [5] 6 v = some (pv e (wI t 0 i 6 v)) := by
  unfold zpI
  unfold zpf
  rw [ob_0 h]
  show some (z_up _ _ _) = _
  rw [pv_up ho h (t' := wI t 0 i 6 v) ?_ (fun y hy => pcell_wI y hy)]
  unfold pcell
  simp only [if_true]
  show Sum.inr (_, pfl e 0 i (up3 t.1 0 i 6 v 0 i) (qJ t 0 i)) = _
  simp [pfl, up3, qI, qJ, pci]
theorem gf_0_7 {e : pE} {t : pS} {i : Nat} (h : pIs e 0 i 0) : zgI (pv e t) (some (pL e 0 i 0)) [5] 7 = some (qI t 0 i 7) := by
  unfold zgI
  rw [ob_0 h]
  rfl
theorem pf_0_7 {e : pE} {t : pS} {i : Nat} (ho : pOk e) (h : pIs e 0 i 0) (v : Int32) : zpI (pv e t) (some (pL e 0 i 0)) [5] 7 v = some (pv e (wI t 0 i 7 v)) := by
  unfold zpI
  unfold zpf
  rw [ob_0 h]
  show some (z_up _ _ _) = _
  rw [pv_up ho h (t' := wI t 0 i 7 v) ?_ (fun y hy => pcell_wI y hy)]
  unfold pcell
  simp only [if_true]
  show Sum.inr (_, pfl e 0 i (up3 t.1 0 i 7 v 0 i) (qJ t 0 i)) = _
  simp [pfl, up3, qI, qJ, pci]
theorem gf_0_8 {e : pE} {t : pS} {i : Nat} (h : pIs e 0 i 0) : zgI (pv e t) (some (pL e 0 i 0)) [5] 8 = some (qI t 0 i 8) := by
  unfold zgI
  rw [ob_0 h]
  rfl
theorem pf_0_8 {e : pE} {t : pS} {i : Nat} (ho : pOk e) (h : pIs e 0 i 0) (v : Int32) : zpI (pv e t) (some (pL e 0 i 0)) [5] 8 v = some (pv e (wI t 0 i 8 v)) := by
  unfold zpI
  unfold zpf
  rw [ob_0 h]
  show some (z_up _ _ _) = _
  rw [pv_up ho h (t' := wI t 0 i 8 v) ?_ (fun y hy => pcell_wI y hy)]
  unfold pcell
  simp only [if_true]
  show Sum.inr (_, pfl e 0 i (up3 t.1 0 i 8 v 0 i) (qJ t 0 i)) = _
  simp [pfl, up3, qI, qJ, pci]
theorem gf_0_9 {e : pE} {t : pS} {i : Nat} (h : pIs e 0 i 0) : zgI (pv e t) (some (pL e 0 i 0)) [5] 9 = some (qI t 0 i 9) := by
  unfold zgI
  rw [ob_0 h]
  rfl
theorem pf_0_9 {e : pE} {t : pS} {i : Nat} (ho : pOk e) (h : pIs e 0 i 0) (v : Int32) (hv : v = 0 ∨ v = 1) : zpZ (pv e t) (some (pL e 0 i 0)) [5] 9 v = some (pv e (wI t 0 i 9 v)) := by
  unfold zpZ
  rw [if_pos hv]
  unfold zpf
  rw [ob_0 h]
  show some (z_up _ _ _) = _
  rw [pv_up ho h (t' := wI t 0 i 9 v) ?_ (fun y hy => pcell_wI y hy)]
  unfold pcell
  simp only [if_true]
  show Sum.inr (_, pfl e 0 i (up3 t.1 0 i 9 v 0 i) (qJ t 0 i)) = _
  simp [pfl, up3, qI, qJ, pci]
theorem ar_0_1 {e : pE} {t : pS} {i : Nat} (h : pIs e 0 i 1) : z_arr (pv e t) (some (pL e 0 i 1)) 3 = some (pL e 0 i 1, e.2.2.2 0 i 1, .inr (.inr (.inr (.inr (rR t 0 i 1))))) := by
  unfold z_arr
  simp only [Option.bind_some, pv_at h]
  rfl
theorem al_0_1 {e : pE} {t : pS} {i : Nat} (h : pIs e 0 i 1) : zalen (pv e t) (some (pL e 0 i 1)) 3 = some (nI (e.2.2.2 0 i 1)) := by
  unfold zalen
  rw [ar_0_1 h]
  rfl
theorem ga_0_1 {e : pE} {t : pS} {i x : Nat} (h : pIs e 0 i 1) (hx : x < e.2.2.2 0 i 1) (hl : e.2.2.2 0 i 1 < 2 ^ 31) : zaR (pv e t) (some (pL e 0 i 1)) 3 (nI x) = some (rR t 0 i 1 x) := by
  unfold zaR
  rw [ar_0_1 h]
  show (if _ then _ else _) = _
  rw [if_neg (nI_in hx hl), nI_clamp (by omega)]
theorem ar_0_2 {e : pE} {t : pS} {i : Nat} (h : pIs e 0 i 2) : z_arr (pv e t) (some (pL e 0 i 2)) 4 = some (pL e 0 i 2, e.2.2.2 0 i 2, .inr (.inr (.inr (.inr (rR t 0 i 2))))) := by
  unfold z_arr
  simp only [Option.bind_some, pv_at h]
  rfl
theorem al_0_2 {e : pE} {t : pS} {i : Nat} (h : pIs e 0 i 2) : zalen (pv e t) (some (pL e 0 i 2)) 4 = some (nI (e.2.2.2 0 i 2)) := by
  unfold zalen
  rw [ar_0_2 h]
  rfl
theorem ga_0_2 {e : pE} {t : pS} {i x : Nat} (h : pIs e 0 i 2) (hx : x < e.2.2.2 0 i 2) (hl : e.2.2.2 0 i 2 < 2 ^ 31) : zaR (pv e t) (some (pL e 0 i 2)) 4 (nI x) = some (rR t 0 i 2 x) := by
  unfold zaR
  rw [ar_0_2 h]
  show (if _ then _ else _) = _
  rw [if_neg (nI_in hx hl), nI_clamp (by omega)]
theorem ar_0_3 {e : pE} {t : pS} {i : Nat} (h : pIs e 0 i 3) : z_arr (pv e t) (some (pL e 0 i 3)) 6 = some (pL e 0 i 3, e.2.2.2 0 i 3, .inr (.inr (.inr (.inr (rR t 0 i 3))))) := by
  unfold z_arr
  simp only [Option.bind_some, pv_at h]
  rfl
theorem al_0_3 {e : pE} {t : pS} {i : Nat} (h : pIs e 0 i 3) : zalen (pv e t) (some (pL e 0 i 3)) 6 = some (nI (e.2.2.2 0 i 3)) := by
  unfold zalen
  rw [ar_0_3 h]
  rfl
theorem ga_0_3 {e : pE} {t : pS} {i x : Nat} (h : pIs e 0 i 3) (hx : x < e.2.2.2 0 i 3) (hl : e.2.2.2 0 i 3 < 2 ^ 31) : zaR (pv e t) (some (pL e 0 i 3)) 6 (nI x) = some (rR t 0 i 3 x) := by
  unfold zaR
  rw [ar_0_3 h]
  show (if _ then _ else _) = _
  rw [if_neg (nI_in hx hl), nI_clamp (by omega)]
theorem ar_0_4 {e : pE} {t : pS} {i : Nat} (h : pIs e 0 i 4) : z_arr (pv e t) (some (pL e 0 i 4)) 1 = some (pL e 0 i 4, e.2.2.2 0 i 4, .inr (.inl (rJ t 0 i 4))) := by
  unfold z_arr
  simp only [Option.bind_some, pv_at h]
  rfl
theorem al_0_4 {e : pE} {t : pS} {i : Nat} (h : pIs e 0 i 4) : zalen (pv e t) (some (pL e 0 i 4)) 1 = some (nI (e.2.2.2 0 i 4)) := by
  unfold zalen
  rw [ar_0_4 h]
  rfl
theorem ga_0_4 {e : pE} {t : pS} {i x : Nat} (h : pIs e 0 i 4) (hx : x < e.2.2.2 0 i 4) (hl : e.2.2.2 0 i 4 < 2 ^ 31) : zaL (pv e t) (some (pL e 0 i 4)) 1 (nI x) = some (rJ t 0 i 4 x) := by
  unfold zaL
  rw [ar_0_4 h]
  show (if _ then _ else _) = _
  rw [if_neg (nI_in hx hl), nI_clamp (by omega)]
theorem sa_0_4 {e : pE} {t : pS} {i x : Nat} (ho : pOk e) (h : pIs e 0 i 4) (hx : x < e.2.2.2 0 i 4) (hl : e.2.2.2 0 i 4 < 2 ^ 31) (v : Int64) : zsL (pv e t) (some (pL e 0 i 4)) 1 (nI x) v = some (pv e (uJ t 0 i 4 (vp_updL (rJ t 0 i 4) x v))) := by
  unfold zsL
  rw [ar_0_4 h]
  show (if _ then _ else _) = _
  rw [if_neg (nI_in hx hl), nI_clamp (by omega)]
  rw [pv_up ho h (t' := uJ t 0 i 4 (vp_updL (rJ t 0 i 4) x v)) ?_ (fun y hy => pcell_uJ y hy)]
  unfold pcell rJ
  show Sum.inl (_, _, par9 _ _ _ _) = _
  simp [uJ, up3, par9, pty]
theorem ar_0_5 {e : pE} {t : pS} {i : Nat} (h : pIs e 0 i 5) : z_arr (pv e t) (some (pL e 0 i 5)) 0 = some (pL e 0 i 5, e.2.2.2 0 i 5, .inl (rI t 0 i 5)) := by
  unfold z_arr
  simp only [Option.bind_some, pv_at h]
  rfl
theorem al_0_5 {e : pE} {t : pS} {i : Nat} (h : pIs e 0 i 5) : zalen (pv e t) (some (pL e 0 i 5)) 0 = some (nI (e.2.2.2 0 i 5)) := by
  unfold zalen
  rw [ar_0_5 h]
  rfl
theorem ga_0_5 {e : pE} {t : pS} {i x : Nat} (h : pIs e 0 i 5) (hx : x < e.2.2.2 0 i 5) (hl : e.2.2.2 0 i 5 < 2 ^ 31) : zaI (pv e t) (some (pL e 0 i 5)) 0 (nI x) = some (rI t 0 i 5 x) := by
  unfold zaI
  rw [ar_0_5 h]
  show (if _ then _ else _) = _
  rw [if_neg (nI_in hx hl), nI_clamp (by omega)]
theorem sa_0_5 {e : pE} {t : pS} {i x : Nat} (ho : pOk e) (h : pIs e 0 i 5) (hx : x < e.2.2.2 0 i 5) (hl : e.2.2.2 0 i 5 < 2 ^ 31) (v : Int32) : zsI (pv e t) (some (pL e 0 i 5)) 0 (nI x) v = some (pv e (uI t 0 i 5 (upd (rI t 0 i 5) x v))) := by
  unfold zsI
  rw [ar_0_5 h]
  show (if _ then _ else _) = _
  rw [if_neg (nI_in hx hl), nI_clamp (by omega)]
  rw [pv_up ho h (t' := uI t 0 i 5 (upd (rI t 0 i 5) x v)) ?_ (fun y hy => pcell_uI y hy)]
  unfold pcell rI
  show Sum.inl (_, _, par9 _ _ _ _) = _
  simp [uI, up3, par9, pty]
theorem ob_1 {e : pE} {t : pS} {i : Nat} (h : pIs e 1 i 0) : z_obj (pv e t) (some (pL e 1 i 0)) [0] = some (pL e 1 i 0, 0, pfl e 1 i (qI t 1 i) (qJ t 1 i)) := by
  unfold z_obj
  simp only [Option.bind_some, pv_at h]
  rfl
theorem gf_1_0 {e : pE} {t : pS} {i : Nat} (h : pIs e 1 i 0) : zgR (pv e t) (some (pL e 1 i 0)) [0] 0 = some (some ((pL e 1 i 1))) := by
  unfold zgR
  rw [ob_1 h]
  rfl
theorem gf_1_1 {e : pE} {t : pS} {i : Nat} (h : pIs e 1 i 0) : zgR (pv e t) (some (pL e 1 i 0)) [0] 1 = some (some ((pL e 1 i 2))) := by
  unfold zgR
  rw [ob_1 h]
  rfl
theorem gf_1_2 {e : pE} {t : pS} {i : Nat} (h : pIs e 1 i 0) : zgI (pv e t) (some (pL e 1 i 0)) [0] 2 = some (qI t 1 i 2) := by
  unfold zgI
  rw [ob_1 h]
  rfl
theorem pf_1_2 {e : pE} {t : pS} {i : Nat} (ho : pOk e) (h : pIs e 1 i 0) (v : Int32) : zpI (pv e t) (some (pL e 1 i 0)) [0] 2 v = some (pv e (wI t 1 i 2 v)) := by
  unfold zpI
  unfold zpf
  rw [ob_1 h]
  show some (z_up _ _ _) = _
  rw [pv_up ho h (t' := wI t 1 i 2 v) ?_ (fun y hy => pcell_wI y hy)]
  unfold pcell
  simp only [if_true]
  show Sum.inr (_, pfl e 1 i (up3 t.1 1 i 2 v 1 i) (qJ t 1 i)) = _
  simp [pfl, up3, qI, qJ, pci]
theorem gf_1_3 {e : pE} {t : pS} {i : Nat} (h : pIs e 1 i 0) : zgI (pv e t) (some (pL e 1 i 0)) [0] 3 = some (qI t 1 i 3) := by
  unfold zgI
  rw [ob_1 h]
  rfl
theorem pf_1_3 {e : pE} {t : pS} {i : Nat} (ho : pOk e) (h : pIs e 1 i 0) (v : Int32) : zpI (pv e t) (some (pL e 1 i 0)) [0] 3 v = some (pv e (wI t 1 i 3 v)) := by
  unfold zpI
  unfold zpf
  rw [ob_1 h]
  show some (z_up _ _ _) = _
  rw [pv_up ho h (t' := wI t 1 i 3 v) ?_ (fun y hy => pcell_wI y hy)]
  unfold pcell
  simp only [if_true]
  show Sum.inr (_, pfl e 1 i (up3 t.1 1 i 3 v 1 i) (qJ t 1 i)) = _
  simp [pfl, up3, qI, qJ, pci]
theorem ar_1_1 {e : pE} {t : pS} {i : Nat} (h : pIs e 1 i 1) : z_arr (pv e t) (some (pL e 1 i 1)) 0 = some (pL e 1 i 1, e.2.2.2 1 i 1, .inl (rI t 1 i 1)) := by
  unfold z_arr
  simp only [Option.bind_some, pv_at h]
  rfl
theorem al_1_1 {e : pE} {t : pS} {i : Nat} (h : pIs e 1 i 1) : zalen (pv e t) (some (pL e 1 i 1)) 0 = some (nI (e.2.2.2 1 i 1)) := by
  unfold zalen
  rw [ar_1_1 h]
  rfl
theorem ga_1_1 {e : pE} {t : pS} {i x : Nat} (h : pIs e 1 i 1) (hx : x < e.2.2.2 1 i 1) (hl : e.2.2.2 1 i 1 < 2 ^ 31) : zaI (pv e t) (some (pL e 1 i 1)) 0 (nI x) = some (rI t 1 i 1 x) := by
  unfold zaI
  rw [ar_1_1 h]
  show (if _ then _ else _) = _
  rw [if_neg (nI_in hx hl), nI_clamp (by omega)]
theorem sa_1_1 {e : pE} {t : pS} {i x : Nat} (ho : pOk e) (h : pIs e 1 i 1) (hx : x < e.2.2.2 1 i 1) (hl : e.2.2.2 1 i 1 < 2 ^ 31) (v : Int32) : zsI (pv e t) (some (pL e 1 i 1)) 0 (nI x) v = some (pv e (uI t 1 i 1 (upd (rI t 1 i 1) x v))) := by
  unfold zsI
  rw [ar_1_1 h]
  show (if _ then _ else _) = _
  rw [if_neg (nI_in hx hl), nI_clamp (by omega)]
  rw [pv_up ho h (t' := uI t 1 i 1 (upd (rI t 1 i 1) x v)) ?_ (fun y hy => pcell_uI y hy)]
  unfold pcell rI
  show Sum.inl (_, _, par9 _ _ _ _) = _
  simp [uI, up3, par9, pty]
theorem ar_1_2 {e : pE} {t : pS} {i : Nat} (h : pIs e 1 i 2) : z_arr (pv e t) (some (pL e 1 i 2)) 0 = some (pL e 1 i 2, e.2.2.2 1 i 2, .inl (rI t 1 i 2)) := by
  unfold z_arr
  simp only [Option.bind_some, pv_at h]
  rfl
theorem al_1_2 {e : pE} {t : pS} {i : Nat} (h : pIs e 1 i 2) : zalen (pv e t) (some (pL e 1 i 2)) 0 = some (nI (e.2.2.2 1 i 2)) := by
  unfold zalen
  rw [ar_1_2 h]
  rfl
theorem ga_1_2 {e : pE} {t : pS} {i x : Nat} (h : pIs e 1 i 2) (hx : x < e.2.2.2 1 i 2) (hl : e.2.2.2 1 i 2 < 2 ^ 31) : zaI (pv e t) (some (pL e 1 i 2)) 0 (nI x) = some (rI t 1 i 2 x) := by
  unfold zaI
  rw [ar_1_2 h]
  show (if _ then _ else _) = _
  rw [if_neg (nI_in hx hl), nI_clamp (by omega)]
theorem sa_1_2 {e : pE} {t : pS} {i x : Nat} (ho : pOk e) (h : pIs e 1 i 2) (hx : x < e.2.2.2 1 i 2) (hl : e.2.2.2 1 i 2 < 2 ^ 31) (v : Int32) : zsI (pv e t) (some (pL e 1 i 2)) 0 (nI x) v = some (pv e (uI t 1 i 2 (upd (rI t 1 i 2) x v))) := by
  unfold zsI
  rw [ar_1_2 h]
  show (if _ then _ else _) = _
  rw [if_neg (nI_in hx hl), nI_clamp (by omega)]
  rw [pv_up ho h (t' := uI t 1 i 2 (upd (rI t 1 i 2) x v)) ?_ (fun y hy => pcell_uI y hy)]
  unfold pcell rI
  show Sum.inl (_, _, par9 _ _ _ _) = _
  simp [uI, up3, par9, pty]
theorem ob_2 {e : pE} {t : pS} {i : Nat} (h : pIs e 2 i 0) : z_obj (pv e t) (some (pL e 2 i 0)) [4] = some (pL e 2 i 0, 4, pfl e 2 i (qI t 2 i) (qJ t 2 i)) := by
  unfold z_obj
  simp only [Option.bind_some, pv_at h]
  rfl
theorem gf_2_0 {e : pE} {t : pS} {i : Nat} (h : pIs e 2 i 0) : zgI (pv e t) (some (pL e 2 i 0)) [4] 0 = some (qI t 2 i 0) := by
  unfold zgI
  rw [ob_2 h]
  rfl
theorem pf_2_0 {e : pE} {t : pS} {i : Nat} (ho : pOk e) (h : pIs e 2 i 0) (v : Int32) : zpI (pv e t) (some (pL e 2 i 0)) [4] 0 v = some (pv e (wI t 2 i 0 v)) := by
  unfold zpI
  unfold zpf
  rw [ob_2 h]
  show some (z_up _ _ _) = _
  rw [pv_up ho h (t' := wI t 2 i 0 v) ?_ (fun y hy => pcell_wI y hy)]
  unfold pcell
  simp only [if_true]
  show Sum.inr (_, pfl e 2 i (up3 t.1 2 i 0 v 2 i) (qJ t 2 i)) = _
  simp [pfl, up3, qI, qJ, pci]
theorem gf_2_1 {e : pE} {t : pS} {i : Nat} (h : pIs e 2 i 0) : zgR (pv e t) (some (pL e 2 i 0)) [4] 1 = some (some ((pL e 2 i 1))) := by
  unfold zgR
  rw [ob_2 h]
  rfl
theorem gf_2_2 {e : pE} {t : pS} {i : Nat} (h : pIs e 2 i 0) : zgR (pv e t) (some (pL e 2 i 0)) [4] 2 = some (some ((pL e 2 i 2))) := by
  unfold zgR
  rw [ob_2 h]
  rfl
theorem gf_2_3 {e : pE} {t : pS} {i : Nat} (h : pIs e 2 i 0) : zgI (pv e t) (some (pL e 2 i 0)) [4] 3 = some (qI t 2 i 3) := by
  unfold zgI
  rw [ob_2 h]
  rfl
theorem pf_2_3 {e : pE} {t : pS} {i : Nat} (ho : pOk e) (h : pIs e 2 i 0) (v : Int32) : zpI (pv e t) (some (pL e 2 i 0)) [4] 3 v = some (pv e (wI t 2 i 3 v)) := by
  unfold zpI
  unfold zpf
  rw [ob_2 h]
  show some (z_up _ _ _) = _
  rw [pv_up ho h (t' := wI t 2 i 3 v) ?_ (fun y hy => pcell_wI y hy)]
  unfold pcell
  simp only [if_true]
  show Sum.inr (_, pfl e 2 i (up3 t.1 2 i 3 v 2 i) (qJ t 2 i)) = _
  simp [pfl, up3, qI, qJ, pci]
theorem gf_2_4 {e : pE} {t : pS} {i : Nat} (h : pIs e 2 i 0) : zgI (pv e t) (some (pL e 2 i 0)) [4] 4 = some (qI t 2 i 4) := by
  unfold zgI
  rw [ob_2 h]
  rfl
theorem pf_2_4 {e : pE} {t : pS} {i : Nat} (ho : pOk e) (h : pIs e 2 i 0) (v : Int32) : zpI (pv e t) (some (pL e 2 i 0)) [4] 4 v = some (pv e (wI t 2 i 4 v)) := by
  unfold zpI
  unfold zpf
  rw [ob_2 h]
  show some (z_up _ _ _) = _
  rw [pv_up ho h (t' := wI t 2 i 4 v) ?_ (fun y hy => pcell_wI y hy)]
  unfold pcell
  simp only [if_true]
  show Sum.inr (_, pfl e 2 i (up3 t.1 2 i 4 v 2 i) (qJ t 2 i)) = _
  simp [pfl, up3, qI, qJ, pci]
theorem gf_2_5 {e : pE} {t : pS} {i : Nat} (h : pIs e 2 i 0) : zgI (pv e t) (some (pL e 2 i 0)) [4] 5 = some (qI t 2 i 5) := by
  unfold zgI
  rw [ob_2 h]
  rfl
theorem pf_2_5 {e : pE} {t : pS} {i : Nat} (ho : pOk e) (h : pIs e 2 i 0) (v : Int32) : zpI (pv e t) (some (pL e 2 i 0)) [4] 5 v = some (pv e (wI t 2 i 5 v)) := by
  unfold zpI
  unfold zpf
  rw [ob_2 h]
  show some (z_up _ _ _) = _
  rw [pv_up ho h (t' := wI t 2 i 5 v) ?_ (fun y hy => pcell_wI y hy)]
  unfold pcell
  simp only [if_true]
  show Sum.inr (_, pfl e 2 i (up3 t.1 2 i 5 v 2 i) (qJ t 2 i)) = _
  simp [pfl, up3, qI, qJ, pci]
theorem gf_2_6 {e : pE} {t : pS} {i : Nat} (h : pIs e 2 i 0) : zgL (pv e t) (some (pL e 2 i 0)) [4] 6 = some (qJ t 2 i 6) := by
  unfold zgL
  rw [ob_2 h]
  rfl
theorem pf_2_6 {e : pE} {t : pS} {i : Nat} (ho : pOk e) (h : pIs e 2 i 0) (v : Int64) : zpL (pv e t) (some (pL e 2 i 0)) [4] 6 v = some (pv e (wJ t 2 i 6 v)) := by
  unfold zpL
  unfold zpf
  rw [ob_2 h]
  show some (z_up _ _ _) = _
  rw [pv_up ho h (t' := wJ t 2 i 6 v) ?_ (fun y hy => pcell_wJ y hy)]
  unfold pcell
  simp only [if_true]
  show Sum.inr (_, pfl e 2 i (qI t 2 i) (up3 t.2.1 2 i 6 v 2 i)) = _
  simp [pfl, up3, qI, qJ, pci]
theorem gf_2_7 {e : pE} {t : pS} {i : Nat} (h : pIs e 2 i 0) : zgI (pv e t) (some (pL e 2 i 0)) [4] 7 = some (qI t 2 i 7) := by
  unfold zgI
  rw [ob_2 h]
  rfl
theorem pf_2_7 {e : pE} {t : pS} {i : Nat} (ho : pOk e) (h : pIs e 2 i 0) (v : Int32) : zpI (pv e t) (some (pL e 2 i 0)) [4] 7 v = some (pv e (wI t 2 i 7 v)) := by
  unfold zpI
  unfold zpf
  rw [ob_2 h]
  show some (z_up _ _ _) = _
  rw [pv_up ho h (t' := wI t 2 i 7 v) ?_ (fun y hy => pcell_wI y hy)]
  unfold pcell
  simp only [if_true]
  show Sum.inr (_, pfl e 2 i (up3 t.1 2 i 7 v 2 i) (qJ t 2 i)) = _
  simp [pfl, up3, qI, qJ, pci]
theorem gf_2_8 {e : pE} {t : pS} {i : Nat} (h : pIs e 2 i 0) : zgI (pv e t) (some (pL e 2 i 0)) [4] 8 = some (qI t 2 i 8) := by
  unfold zgI
  rw [ob_2 h]
  rfl
theorem pf_2_8 {e : pE} {t : pS} {i : Nat} (ho : pOk e) (h : pIs e 2 i 0) (v : Int32) (hv : v = 0 ∨ v = 1) : zpZ (pv e t) (some (pL e 2 i 0)) [4] 8 v = some (pv e (wI t 2 i 8 v)) := by
  unfold zpZ
  rw [if_pos hv]
  unfold zpf
  rw [ob_2 h]
  show some (z_up _ _ _) = _
  rw [pv_up ho h (t' := wI t 2 i 8 v) ?_ (fun y hy => pcell_wI y hy)]
  unfold pcell
  simp only [if_true]
  show Sum.inr (_, pfl e 2 i (up3 t.1 2 i 8 v 2 i) (qJ t 2 i)) = _
  simp [pfl, up3, qI, qJ, pci]
theorem ar_2_1 {e : pE} {t : pS} {i : Nat} (h : pIs e 2 i 1) : z_arr (pv e t) (some (pL e 2 i 1)) 4 = some (pL e 2 i 1, e.2.2.2 2 i 1, .inr (.inr (.inr (.inr (rR t 2 i 1))))) := by
  unfold z_arr
  simp only [Option.bind_some, pv_at h]
  rfl
theorem al_2_1 {e : pE} {t : pS} {i : Nat} (h : pIs e 2 i 1) : zalen (pv e t) (some (pL e 2 i 1)) 4 = some (nI (e.2.2.2 2 i 1)) := by
  unfold zalen
  rw [ar_2_1 h]
  rfl
theorem ga_2_1 {e : pE} {t : pS} {i x : Nat} (h : pIs e 2 i 1) (hx : x < e.2.2.2 2 i 1) (hl : e.2.2.2 2 i 1 < 2 ^ 31) : zaR (pv e t) (some (pL e 2 i 1)) 4 (nI x) = some (rR t 2 i 1 x) := by
  unfold zaR
  rw [ar_2_1 h]
  show (if _ then _ else _) = _
  rw [if_neg (nI_in hx hl), nI_clamp (by omega)]
theorem ar_2_2 {e : pE} {t : pS} {i : Nat} (h : pIs e 2 i 2) : z_arr (pv e t) (some (pL e 2 i 2)) 5 = some (pL e 2 i 2, e.2.2.2 2 i 2, .inr (.inr (.inr (.inr (rR t 2 i 2))))) := by
  unfold z_arr
  simp only [Option.bind_some, pv_at h]
  rfl
theorem al_2_2 {e : pE} {t : pS} {i : Nat} (h : pIs e 2 i 2) : zalen (pv e t) (some (pL e 2 i 2)) 5 = some (nI (e.2.2.2 2 i 2)) := by
  unfold zalen
  rw [ar_2_2 h]
  rfl
theorem ga_2_2 {e : pE} {t : pS} {i x : Nat} (h : pIs e 2 i 2) (hx : x < e.2.2.2 2 i 2) (hl : e.2.2.2 2 i 2 < 2 ^ 31) : zaR (pv e t) (some (pL e 2 i 2)) 5 (nI x) = some (rR t 2 i 2 x) := by
  unfold zaR
  rw [ar_2_2 h]
  show (if _ then _ else _) = _
  rw [if_neg (nI_in hx hl), nI_clamp (by omega)]
theorem ob_3 {e : pE} {t : pS} {i : Nat} (h : pIs e 3 i 0) : z_obj (pv e t) (some (pL e 3 i 0)) [1] = some (pL e 3 i 0, 1, pfl e 3 i (qI t 3 i) (qJ t 3 i)) := by
  unfold z_obj
  simp only [Option.bind_some, pv_at h]
  rfl
theorem gf_3_0 {e : pE} {t : pS} {i : Nat} (h : pIs e 3 i 0) : zgI (pv e t) (some (pL e 3 i 0)) [1] 0 = some (qI t 3 i 0) := by
  unfold zgI
  rw [ob_3 h]
  rfl
theorem pf_3_0 {e : pE} {t : pS} {i : Nat} (ho : pOk e) (h : pIs e 3 i 0) (v : Int32) : zpI (pv e t) (some (pL e 3 i 0)) [1] 0 v = some (pv e (wI t 3 i 0 v)) := by
  unfold zpI
  unfold zpf
  rw [ob_3 h]
  show some (z_up _ _ _) = _
  rw [pv_up ho h (t' := wI t 3 i 0 v) ?_ (fun y hy => pcell_wI y hy)]
  unfold pcell
  simp only [if_true]
  show Sum.inr (_, pfl e 3 i (up3 t.1 3 i 0 v 3 i) (qJ t 3 i)) = _
  simp [pfl, up3, qI, qJ, pci]
theorem gf_3_1 {e : pE} {t : pS} {i : Nat} (h : pIs e 3 i 0) : zgI (pv e t) (some (pL e 3 i 0)) [1] 1 = some (qI t 3 i 1) := by
  unfold zgI
  rw [ob_3 h]
  rfl
theorem pf_3_1 {e : pE} {t : pS} {i : Nat} (ho : pOk e) (h : pIs e 3 i 0) (v : Int32) : zpI (pv e t) (some (pL e 3 i 0)) [1] 1 v = some (pv e (wI t 3 i 1 v)) := by
  unfold zpI
  unfold zpf
  rw [ob_3 h]
  show some (z_up _ _ _) = _
  rw [pv_up ho h (t' := wI t 3 i 1 v) ?_ (fun y hy => pcell_wI y hy)]
  unfold pcell
  simp only [if_true]
  show Sum.inr (_, pfl e 3 i (up3 t.1 3 i 1 v 3 i) (qJ t 3 i)) = _
  simp [pfl, up3, qI, qJ, pci]
theorem gf_3_2 {e : pE} {t : pS} {i : Nat} (h : pIs e 3 i 0) : zgI (pv e t) (some (pL e 3 i 0)) [1] 2 = some (qI t 3 i 2) := by
  unfold zgI
  rw [ob_3 h]
  rfl
theorem pf_3_2 {e : pE} {t : pS} {i : Nat} (ho : pOk e) (h : pIs e 3 i 0) (v : Int32) : zpI (pv e t) (some (pL e 3 i 0)) [1] 2 v = some (pv e (wI t 3 i 2 v)) := by
  unfold zpI
  unfold zpf
  rw [ob_3 h]
  show some (z_up _ _ _) = _
  rw [pv_up ho h (t' := wI t 3 i 2 v) ?_ (fun y hy => pcell_wI y hy)]
  unfold pcell
  simp only [if_true]
  show Sum.inr (_, pfl e 3 i (up3 t.1 3 i 2 v 3 i) (qJ t 3 i)) = _
  simp [pfl, up3, qI, qJ, pci]
theorem gf_3_3 {e : pE} {t : pS} {i : Nat} (h : pIs e 3 i 0) : zgI (pv e t) (some (pL e 3 i 0)) [1] 3 = some (qI t 3 i 3) := by
  unfold zgI
  rw [ob_3 h]
  rfl
theorem pf_3_3 {e : pE} {t : pS} {i : Nat} (ho : pOk e) (h : pIs e 3 i 0) (v : Int32) (hv : v = 0 ∨ v = 1) : zpZ (pv e t) (some (pL e 3 i 0)) [1] 3 v = some (pv e (wI t 3 i 3 v)) := by
  unfold zpZ
  rw [if_pos hv]
  unfold zpf
  rw [ob_3 h]
  show some (z_up _ _ _) = _
  rw [pv_up ho h (t' := wI t 3 i 3 v) ?_ (fun y hy => pcell_wI y hy)]
  unfold pcell
  simp only [if_true]
  show Sum.inr (_, pfl e 3 i (up3 t.1 3 i 3 v 3 i) (qJ t 3 i)) = _
  simp [pfl, up3, qI, qJ, pci]
theorem gf_3_4 {e : pE} {t : pS} {i : Nat} (h : pIs e 3 i 0) : zgR (pv e t) (some (pL e 3 i 0)) [1] 4 = some (some ((pL e 3 i 1))) := by
  unfold zgR
  rw [ob_3 h]
  rfl
theorem gf_3_5 {e : pE} {t : pS} {i : Nat} (h : pIs e 3 i 0) : zgR (pv e t) (some (pL e 3 i 0)) [1] 5 = some (some ((pL e 3 i 2))) := by
  unfold zgR
  rw [ob_3 h]
  rfl
theorem gf_3_6 {e : pE} {t : pS} {i : Nat} (h : pIs e 3 i 0) : zgR (pv e t) (some (pL e 3 i 0)) [1] 6 = some (some ((pL e 3 i 3))) := by
  unfold zgR
  rw [ob_3 h]
  rfl
theorem gf_3_7 {e : pE} {t : pS} {i : Nat} (h : pIs e 3 i 0) : zgR (pv e t) (some (pL e 3 i 0)) [1] 7 = some (some ((pL e 3 i 4))) := by
  unfold zgR
  rw [ob_3 h]
  rfl
theorem gf_3_8 {e : pE} {t : pS} {i : Nat} (h : pIs e 3 i 0) : zgI (pv e t) (some (pL e 3 i 0)) [1] 8 = some (qI t 3 i 8) := by
  unfold zgI
  rw [ob_3 h]
  rfl
theorem pf_3_8 {e : pE} {t : pS} {i : Nat} (ho : pOk e) (h : pIs e 3 i 0) (v : Int32) : zpI (pv e t) (some (pL e 3 i 0)) [1] 8 v = some (pv e (wI t 3 i 8 v)) := by
  unfold zpI
  unfold zpf
  rw [ob_3 h]
  show some (z_up _ _ _) = _
  rw [pv_up ho h (t' := wI t 3 i 8 v) ?_ (fun y hy => pcell_wI y hy)]
  unfold pcell
  simp only [if_true]
  show Sum.inr (_, pfl e 3 i (up3 t.1 3 i 8 v 3 i) (qJ t 3 i)) = _
  simp [pfl, up3, qI, qJ, pci]
theorem gf_3_9 {e : pE} {t : pS} {i : Nat} (h : pIs e 3 i 0) : zgI (pv e t) (some (pL e 3 i 0)) [1] 9 = some (qI t 3 i 9) := by
  unfold zgI
  rw [ob_3 h]
  rfl
theorem pf_3_9 {e : pE} {t : pS} {i : Nat} (ho : pOk e) (h : pIs e 3 i 0) (v : Int32) : zpI (pv e t) (some (pL e 3 i 0)) [1] 9 v = some (pv e (wI t 3 i 9 v)) := by
  unfold zpI
  unfold zpf
  rw [ob_3 h]
  show some (z_up _ _ _) = _
  rw [pv_up ho h (t' := wI t 3 i 9 v) ?_ (fun y hy => pcell_wI y hy)]
  unfold pcell
  simp only [if_true]
  show Sum.inr (_, pfl e 3 i (up3 t.1 3 i 9 v 3 i) (qJ t 3 i)) = _
  simp [pfl, up3, qI, qJ, pci]
theorem gf_3_10 {e : pE} {t : pS} {i : Nat} (h : pIs e 3 i 0) : zgL (pv e t) (some (pL e 3 i 0)) [1] 10 = some (qJ t 3 i 10) := by
  unfold zgL
  rw [ob_3 h]
  rfl
theorem pf_3_10 {e : pE} {t : pS} {i : Nat} (ho : pOk e) (h : pIs e 3 i 0) (v : Int64) : zpL (pv e t) (some (pL e 3 i 0)) [1] 10 v = some (pv e (wJ t 3 i 10 v)) := by
  unfold zpL
  unfold zpf
  rw [ob_3 h]
  show some (z_up _ _ _) = _
  rw [pv_up ho h (t' := wJ t 3 i 10 v) ?_ (fun y hy => pcell_wJ y hy)]
  unfold pcell
  simp only [if_true]
  show Sum.inr (_, pfl e 3 i (qI t 3 i) (up3 t.2.1 3 i 10 v 3 i)) = _
  simp [pfl, up3, qI, qJ, pci]
theorem gf_3_11 {e : pE} {t : pS} {i : Nat} (h : pIs e 3 i 0) : zgI (pv e t) (some (pL e 3 i 0)) [1] 11 = some (qI t 3 i 11) := by
  unfold zgI
  rw [ob_3 h]
  rfl
theorem pf_3_11 {e : pE} {t : pS} {i : Nat} (ho : pOk e) (h : pIs e 3 i 0) (v : Int32) : zpI (pv e t) (some (pL e 3 i 0)) [1] 11 v = some (pv e (wI t 3 i 11 v)) := by
  unfold zpI
  unfold zpf
  rw [ob_3 h]
  show some (z_up _ _ _) = _
  rw [pv_up ho h (t' := wI t 3 i 11 v) ?_ (fun y hy => pcell_wI y hy)]
  unfold pcell
  simp only [if_true]
  show Sum.inr (_, pfl e 3 i (up3 t.1 3 i 11 v 3 i) (qJ t 3 i)) = _
  simp [pfl, up3, qI, qJ, pci]
theorem gf_3_12 {e : pE} {t : pS} {i : Nat} (h : pIs e 3 i 0) : zgI (pv e t) (some (pL e 3 i 0)) [1] 12 = some (qI t 3 i 12) := by
  unfold zgI
  rw [ob_3 h]
  rfl
theorem pf_3_12 {e : pE} {t : pS} {i : Nat} (ho : pOk e) (h : pIs e 3 i 0) (v : Int32) (hv : v = 0 ∨ v = 1) : zpZ (pv e t) (some (pL e 3 i 0)) [1] 12 v = some (pv e (wI t 3 i 12 v)) := by
  unfold zpZ
  rw [if_pos hv]
  unfold zpf
  rw [ob_3 h]
  show some (z_up _ _ _) = _
  rw [pv_up ho h (t' := wI t 3 i 12 v) ?_ (fun y hy => pcell_wI y hy)]
  unfold pcell
  simp only [if_true]
  show Sum.inr (_, pfl e 3 i (up3 t.1 3 i 12 v 3 i) (qJ t 3 i)) = _
  simp [pfl, up3, qI, qJ, pci]
theorem obc_3 {e : pE} {t : pS} {i : Nat} (h : pIs e 3 i 0) : z_obj (pv e t) (some (pL e 3 i 0)) [1, 2] = some (pL e 3 i 0, 1, pfl e 3 i (qI t 3 i) (qJ t 3 i)) := by
  unfold z_obj
  simp only [Option.bind_some, pv_at h]
  rfl
theorem gfc_3_0 {e : pE} {t : pS} {i : Nat} (h : pIs e 3 i 0) : zgI (pv e t) (some (pL e 3 i 0)) [1, 2] 0 = some (qI t 3 i 0) := by
  unfold zgI
  rw [obc_3 h]
  rfl
theorem pfc_3_0 {e : pE} {t : pS} {i : Nat} (ho : pOk e) (h : pIs e 3 i 0) (v : Int32) : zpI (pv e t) (some (pL e 3 i 0)) [1, 2] 0 v = some (pv e (wI t 3 i 0 v)) := by
  unfold zpI
  unfold zpf
  rw [obc_3 h]
  show some (z_up _ _ _) = _
  rw [pv_up ho h (t' := wI t 3 i 0 v) ?_ (fun y hy => pcell_wI y hy)]
  unfold pcell
  simp only [if_true]
  show Sum.inr (_, pfl e 3 i (up3 t.1 3 i 0 v 3 i) (qJ t 3 i)) = _
  simp [pfl, up3, qI, qJ, pci]
theorem gfc_3_1 {e : pE} {t : pS} {i : Nat} (h : pIs e 3 i 0) : zgI (pv e t) (some (pL e 3 i 0)) [1, 2] 1 = some (qI t 3 i 1) := by
  unfold zgI
  rw [obc_3 h]
  rfl
theorem pfc_3_1 {e : pE} {t : pS} {i : Nat} (ho : pOk e) (h : pIs e 3 i 0) (v : Int32) : zpI (pv e t) (some (pL e 3 i 0)) [1, 2] 1 v = some (pv e (wI t 3 i 1 v)) := by
  unfold zpI
  unfold zpf
  rw [obc_3 h]
  show some (z_up _ _ _) = _
  rw [pv_up ho h (t' := wI t 3 i 1 v) ?_ (fun y hy => pcell_wI y hy)]
  unfold pcell
  simp only [if_true]
  show Sum.inr (_, pfl e 3 i (up3 t.1 3 i 1 v 3 i) (qJ t 3 i)) = _
  simp [pfl, up3, qI, qJ, pci]
theorem gfc_3_2 {e : pE} {t : pS} {i : Nat} (h : pIs e 3 i 0) : zgI (pv e t) (some (pL e 3 i 0)) [1, 2] 2 = some (qI t 3 i 2) := by
  unfold zgI
  rw [obc_3 h]
  rfl
theorem pfc_3_2 {e : pE} {t : pS} {i : Nat} (ho : pOk e) (h : pIs e 3 i 0) (v : Int32) : zpI (pv e t) (some (pL e 3 i 0)) [1, 2] 2 v = some (pv e (wI t 3 i 2 v)) := by
  unfold zpI
  unfold zpf
  rw [obc_3 h]
  show some (z_up _ _ _) = _
  rw [pv_up ho h (t' := wI t 3 i 2 v) ?_ (fun y hy => pcell_wI y hy)]
  unfold pcell
  simp only [if_true]
  show Sum.inr (_, pfl e 3 i (up3 t.1 3 i 2 v 3 i) (qJ t 3 i)) = _
  simp [pfl, up3, qI, qJ, pci]
theorem gfc_3_3 {e : pE} {t : pS} {i : Nat} (h : pIs e 3 i 0) : zgI (pv e t) (some (pL e 3 i 0)) [1, 2] 3 = some (qI t 3 i 3) := by
  unfold zgI
  rw [obc_3 h]
  rfl
theorem pfc_3_3 {e : pE} {t : pS} {i : Nat} (ho : pOk e) (h : pIs e 3 i 0) (v : Int32) (hv : v = 0 ∨ v = 1) : zpZ (pv e t) (some (pL e 3 i 0)) [1, 2] 3 v = some (pv e (wI t 3 i 3 v)) := by
  unfold zpZ
  rw [if_pos hv]
  unfold zpf
  rw [obc_3 h]
  show some (z_up _ _ _) = _
  rw [pv_up ho h (t' := wI t 3 i 3 v) ?_ (fun y hy => pcell_wI y hy)]
  unfold pcell
  simp only [if_true]
  show Sum.inr (_, pfl e 3 i (up3 t.1 3 i 3 v 3 i) (qJ t 3 i)) = _
  simp [pfl, up3, qI, qJ, pci]
theorem ar_3_1 {e : pE} {t : pS} {i : Nat} (h : pIs e 3 i 1) : z_arr (pv e t) (some (pL e 3 i 1)) 1 = some (pL e 3 i 1, e.2.2.2 3 i 1, .inr (.inl (rJ t 3 i 1))) := by
  unfold z_arr
  simp only [Option.bind_some, pv_at h]
  rfl
theorem al_3_1 {e : pE} {t : pS} {i : Nat} (h : pIs e 3 i 1) : zalen (pv e t) (some (pL e 3 i 1)) 1 = some (nI (e.2.2.2 3 i 1)) := by
  unfold zalen
  rw [ar_3_1 h]
  rfl
theorem ga_3_1 {e : pE} {t : pS} {i x : Nat} (h : pIs e 3 i 1) (hx : x < e.2.2.2 3 i 1) (hl : e.2.2.2 3 i 1 < 2 ^ 31) : zaL (pv e t) (some (pL e 3 i 1)) 1 (nI x) = some (rJ t 3 i 1 x) := by
  unfold zaL
  rw [ar_3_1 h]
  show (if _ then _ else _) = _
  rw [if_neg (nI_in hx hl), nI_clamp (by omega)]
theorem sa_3_1 {e : pE} {t : pS} {i x : Nat} (ho : pOk e) (h : pIs e 3 i 1) (hx : x < e.2.2.2 3 i 1) (hl : e.2.2.2 3 i 1 < 2 ^ 31) (v : Int64) : zsL (pv e t) (some (pL e 3 i 1)) 1 (nI x) v = some (pv e (uJ t 3 i 1 (vp_updL (rJ t 3 i 1) x v))) := by
  unfold zsL
  rw [ar_3_1 h]
  show (if _ then _ else _) = _
  rw [if_neg (nI_in hx hl), nI_clamp (by omega)]
  rw [pv_up ho h (t' := uJ t 3 i 1 (vp_updL (rJ t 3 i 1) x v)) ?_ (fun y hy => pcell_uJ y hy)]
  unfold pcell rJ
  show Sum.inl (_, _, par9 _ _ _ _) = _
  simp [uJ, up3, par9, pty]
theorem ar_3_2 {e : pE} {t : pS} {i : Nat} (h : pIs e 3 i 2) : z_arr (pv e t) (some (pL e 3 i 2)) 0 = some (pL e 3 i 2, e.2.2.2 3 i 2, .inl (rI t 3 i 2)) := by
  unfold z_arr
  simp only [Option.bind_some, pv_at h]
  rfl
theorem al_3_2 {e : pE} {t : pS} {i : Nat} (h : pIs e 3 i 2) : zalen (pv e t) (some (pL e 3 i 2)) 0 = some (nI (e.2.2.2 3 i 2)) := by
  unfold zalen
  rw [ar_3_2 h]
  rfl
theorem ga_3_2 {e : pE} {t : pS} {i x : Nat} (h : pIs e 3 i 2) (hx : x < e.2.2.2 3 i 2) (hl : e.2.2.2 3 i 2 < 2 ^ 31) : zaI (pv e t) (some (pL e 3 i 2)) 0 (nI x) = some (rI t 3 i 2 x) := by
  unfold zaI
  rw [ar_3_2 h]
  show (if _ then _ else _) = _
  rw [if_neg (nI_in hx hl), nI_clamp (by omega)]
theorem sa_3_2 {e : pE} {t : pS} {i x : Nat} (ho : pOk e) (h : pIs e 3 i 2) (hx : x < e.2.2.2 3 i 2) (hl : e.2.2.2 3 i 2 < 2 ^ 31) (v : Int32) : zsI (pv e t) (some (pL e 3 i 2)) 0 (nI x) v = some (pv e (uI t 3 i 2 (upd (rI t 3 i 2) x v))) := by
  unfold zsI
  rw [ar_3_2 h]
  show (if _ then _ else _) = _
  rw [if_neg (nI_in hx hl), nI_clamp (by omega)]
  rw [pv_up ho h (t' := uI t 3 i 2 (upd (rI t 3 i 2) x v)) ?_ (fun y hy => pcell_uI y hy)]
  unfold pcell rI
  show Sum.inl (_, _, par9 _ _ _ _) = _
  simp [uI, up3, par9, pty]
theorem ar_3_3 {e : pE} {t : pS} {i : Nat} (h : pIs e 3 i 3) : z_arr (pv e t) (some (pL e 3 i 3)) 1 = some (pL e 3 i 3, e.2.2.2 3 i 3, .inr (.inl (rJ t 3 i 3))) := by
  unfold z_arr
  simp only [Option.bind_some, pv_at h]
  rfl
theorem al_3_3 {e : pE} {t : pS} {i : Nat} (h : pIs e 3 i 3) : zalen (pv e t) (some (pL e 3 i 3)) 1 = some (nI (e.2.2.2 3 i 3)) := by
  unfold zalen
  rw [ar_3_3 h]
  rfl
theorem ga_3_3 {e : pE} {t : pS} {i x : Nat} (h : pIs e 3 i 3) (hx : x < e.2.2.2 3 i 3) (hl : e.2.2.2 3 i 3 < 2 ^ 31) : zaL (pv e t) (some (pL e 3 i 3)) 1 (nI x) = some (rJ t 3 i 3 x) := by
  unfold zaL
  rw [ar_3_3 h]
  show (if _ then _ else _) = _
  rw [if_neg (nI_in hx hl), nI_clamp (by omega)]
theorem sa_3_3 {e : pE} {t : pS} {i x : Nat} (ho : pOk e) (h : pIs e 3 i 3) (hx : x < e.2.2.2 3 i 3) (hl : e.2.2.2 3 i 3 < 2 ^ 31) (v : Int64) : zsL (pv e t) (some (pL e 3 i 3)) 1 (nI x) v = some (pv e (uJ t 3 i 3 (vp_updL (rJ t 3 i 3) x v))) := by
  unfold zsL
  rw [ar_3_3 h]
  show (if _ then _ else _) = _
  rw [if_neg (nI_in hx hl), nI_clamp (by omega)]
  rw [pv_up ho h (t' := uJ t 3 i 3 (vp_updL (rJ t 3 i 3) x v)) ?_ (fun y hy => pcell_uJ y hy)]
  unfold pcell rJ
  show Sum.inl (_, _, par9 _ _ _ _) = _
  simp [uJ, up3, par9, pty]
theorem ar_3_4 {e : pE} {t : pS} {i : Nat} (h : pIs e 3 i 4) : z_arr (pv e t) (some (pL e 3 i 4)) 0 = some (pL e 3 i 4, e.2.2.2 3 i 4, .inl (rI t 3 i 4)) := by
  unfold z_arr
  simp only [Option.bind_some, pv_at h]
  rfl
theorem al_3_4 {e : pE} {t : pS} {i : Nat} (h : pIs e 3 i 4) : zalen (pv e t) (some (pL e 3 i 4)) 0 = some (nI (e.2.2.2 3 i 4)) := by
  unfold zalen
  rw [ar_3_4 h]
  rfl
theorem ga_3_4 {e : pE} {t : pS} {i x : Nat} (h : pIs e 3 i 4) (hx : x < e.2.2.2 3 i 4) (hl : e.2.2.2 3 i 4 < 2 ^ 31) : zaI (pv e t) (some (pL e 3 i 4)) 0 (nI x) = some (rI t 3 i 4 x) := by
  unfold zaI
  rw [ar_3_4 h]
  show (if _ then _ else _) = _
  rw [if_neg (nI_in hx hl), nI_clamp (by omega)]
theorem sa_3_4 {e : pE} {t : pS} {i x : Nat} (ho : pOk e) (h : pIs e 3 i 4) (hx : x < e.2.2.2 3 i 4) (hl : e.2.2.2 3 i 4 < 2 ^ 31) (v : Int32) : zsI (pv e t) (some (pL e 3 i 4)) 0 (nI x) v = some (pv e (uI t 3 i 4 (upd (rI t 3 i 4) x v))) := by
  unfold zsI
  rw [ar_3_4 h]
  show (if _ then _ else _) = _
  rw [if_neg (nI_in hx hl), nI_clamp (by omega)]
  rw [pv_up ho h (t' := uI t 3 i 4 (upd (rI t 3 i 4) x v)) ?_ (fun y hy => pcell_uI y hy)]
  unfold pcell rI
  show Sum.inl (_, _, par9 _ _ _ _) = _
  simp [uI, up3, par9, pty]
theorem ob_4 {e : pE} {t : pS} {i : Nat} (h : pIs e 4 i 0) : z_obj (pv e t) (some (pL e 4 i 0)) [2] = some (pL e 4 i 0, 2, pfl e 4 i (qI t 4 i) (qJ t 4 i)) := by
  unfold z_obj
  simp only [Option.bind_some, pv_at h]
  rfl
theorem gf_4_0 {e : pE} {t : pS} {i : Nat} (h : pIs e 4 i 0) : zgI (pv e t) (some (pL e 4 i 0)) [2] 0 = some (qI t 4 i 0) := by
  unfold zgI
  rw [ob_4 h]
  rfl
theorem pf_4_0 {e : pE} {t : pS} {i : Nat} (ho : pOk e) (h : pIs e 4 i 0) (v : Int32) : zpI (pv e t) (some (pL e 4 i 0)) [2] 0 v = some (pv e (wI t 4 i 0 v)) := by
  unfold zpI
  unfold zpf
  rw [ob_4 h]
  show some (z_up _ _ _) = _
  rw [pv_up ho h (t' := wI t 4 i 0 v) ?_ (fun y hy => pcell_wI y hy)]
  unfold pcell
  simp only [if_true]
  show Sum.inr (_, pfl e 4 i (up3 t.1 4 i 0 v 4 i) (qJ t 4 i)) = _
  simp [pfl, up3, qI, qJ, pci]
theorem gf_4_1 {e : pE} {t : pS} {i : Nat} (h : pIs e 4 i 0) : zgI (pv e t) (some (pL e 4 i 0)) [2] 1 = some (qI t 4 i 1) := by
  unfold zgI
  rw [ob_4 h]
  rfl
theorem pf_4_1 {e : pE} {t : pS} {i : Nat} (ho : pOk e) (h : pIs e 4 i 0) (v : Int32) : zpI (pv e t) (some (pL e 4 i 0)) [2] 1 v = some (pv e (wI t 4 i 1 v)) := by
  unfold zpI
  unfold zpf
  rw [ob_4 h]
  show some (z_up _ _ _) = _
  rw [pv_up ho h (t' := wI t 4 i 1 v) ?_ (fun y hy => pcell_wI y hy)]
  unfold pcell
  simp only [if_true]
  show Sum.inr (_, pfl e 4 i (up3 t.1 4 i 1 v 4 i) (qJ t 4 i)) = _
  simp [pfl, up3, qI, qJ, pci]
theorem gf_4_2 {e : pE} {t : pS} {i : Nat} (h : pIs e 4 i 0) : zgI (pv e t) (some (pL e 4 i 0)) [2] 2 = some (qI t 4 i 2) := by
  unfold zgI
  rw [ob_4 h]
  rfl
theorem pf_4_2 {e : pE} {t : pS} {i : Nat} (ho : pOk e) (h : pIs e 4 i 0) (v : Int32) : zpI (pv e t) (some (pL e 4 i 0)) [2] 2 v = some (pv e (wI t 4 i 2 v)) := by
  unfold zpI
  unfold zpf
  rw [ob_4 h]
  show some (z_up _ _ _) = _
  rw [pv_up ho h (t' := wI t 4 i 2 v) ?_ (fun y hy => pcell_wI y hy)]
  unfold pcell
  simp only [if_true]
  show Sum.inr (_, pfl e 4 i (up3 t.1 4 i 2 v 4 i) (qJ t 4 i)) = _
  simp [pfl, up3, qI, qJ, pci]
theorem gf_4_3 {e : pE} {t : pS} {i : Nat} (h : pIs e 4 i 0) : zgI (pv e t) (some (pL e 4 i 0)) [2] 3 = some (qI t 4 i 3) := by
  unfold zgI
  rw [ob_4 h]
  rfl
theorem pf_4_3 {e : pE} {t : pS} {i : Nat} (ho : pOk e) (h : pIs e 4 i 0) (v : Int32) (hv : v = 0 ∨ v = 1) : zpZ (pv e t) (some (pL e 4 i 0)) [2] 3 v = some (pv e (wI t 4 i 3 v)) := by
  unfold zpZ
  rw [if_pos hv]
  unfold zpf
  rw [ob_4 h]
  show some (z_up _ _ _) = _
  rw [pv_up ho h (t' := wI t 4 i 3 v) ?_ (fun y hy => pcell_wI y hy)]
  unfold pcell
  simp only [if_true]
  show Sum.inr (_, pfl e 4 i (up3 t.1 4 i 3 v 4 i) (qJ t 4 i)) = _
  simp [pfl, up3, qI, qJ, pci]
theorem gf_4_4 {e : pE} {t : pS} {i : Nat} (h : pIs e 4 i 0) : zgR (pv e t) (some (pL e 4 i 0)) [2] 4 = some (some ((pL e 4 i 1))) := by
  unfold zgR
  rw [ob_4 h]
  rfl
theorem gf_4_5 {e : pE} {t : pS} {i : Nat} (h : pIs e 4 i 0) : zgR (pv e t) (some (pL e 4 i 0)) [2] 5 = some (some ((pL e 4 i 2))) := by
  unfold zgR
  rw [ob_4 h]
  rfl
theorem gf_4_6 {e : pE} {t : pS} {i : Nat} (h : pIs e 4 i 0) : zgI (pv e t) (some (pL e 4 i 0)) [2] 6 = some (qI t 4 i 6) := by
  unfold zgI
  rw [ob_4 h]
  rfl
theorem pf_4_6 {e : pE} {t : pS} {i : Nat} (ho : pOk e) (h : pIs e 4 i 0) (v : Int32) : zpI (pv e t) (some (pL e 4 i 0)) [2] 6 v = some (pv e (wI t 4 i 6 v)) := by
  unfold zpI
  unfold zpf
  rw [ob_4 h]
  show some (z_up _ _ _) = _
  rw [pv_up ho h (t' := wI t 4 i 6 v) ?_ (fun y hy => pcell_wI y hy)]
  unfold pcell
  simp only [if_true]
  show Sum.inr (_, pfl e 4 i (up3 t.1 4 i 6 v 4 i) (qJ t 4 i)) = _
  simp [pfl, up3, qI, qJ, pci]
theorem obc_4 {e : pE} {t : pS} {i : Nat} (h : pIs e 4 i 0) : z_obj (pv e t) (some (pL e 4 i 0)) [1, 2] = some (pL e 4 i 0, 2, pfl e 4 i (qI t 4 i) (qJ t 4 i)) := by
  unfold z_obj
  simp only [Option.bind_some, pv_at h]
  rfl
theorem gfc_4_0 {e : pE} {t : pS} {i : Nat} (h : pIs e 4 i 0) : zgI (pv e t) (some (pL e 4 i 0)) [1, 2] 0 = some (qI t 4 i 0) := by
  unfold zgI
  rw [obc_4 h]
  rfl
theorem pfc_4_0 {e : pE} {t : pS} {i : Nat} (ho : pOk e) (h : pIs e 4 i 0) (v : Int32) : zpI (pv e t) (some (pL e 4 i 0)) [1, 2] 0 v = some (pv e (wI t 4 i 0 v)) := by
  unfold zpI
  unfold zpf
  rw [obc_4 h]
  show some (z_up _ _ _) = _
  rw [pv_up ho h (t' := wI t 4 i 0 v) ?_ (fun y hy => pcell_wI y hy)]
  unfold pcell
  simp only [if_true]
  show Sum.inr (_, pfl e 4 i (up3 t.1 4 i 0 v 4 i) (qJ t 4 i)) = _
  simp [pfl, up3, qI, qJ, pci]
theorem gfc_4_1 {e : pE} {t : pS} {i : Nat} (h : pIs e 4 i 0) : zgI (pv e t) (some (pL e 4 i 0)) [1, 2] 1 = some (qI t 4 i 1) := by
  unfold zgI
  rw [obc_4 h]
  rfl
theorem pfc_4_1 {e : pE} {t : pS} {i : Nat} (ho : pOk e) (h : pIs e 4 i 0) (v : Int32) : zpI (pv e t) (some (pL e 4 i 0)) [1, 2] 1 v = some (pv e (wI t 4 i 1 v)) := by
  unfold zpI
  unfold zpf
  rw [obc_4 h]
  show some (z_up _ _ _) = _
  rw [pv_up ho h (t' := wI t 4 i 1 v) ?_ (fun y hy => pcell_wI y hy)]
  unfold pcell
  simp only [if_true]
  show Sum.inr (_, pfl e 4 i (up3 t.1 4 i 1 v 4 i) (qJ t 4 i)) = _
  simp [pfl, up3, qI, qJ, pci]
theorem gfc_4_2 {e : pE} {t : pS} {i : Nat} (h : pIs e 4 i 0) : zgI (pv e t) (some (pL e 4 i 0)) [1, 2] 2 = some (qI t 4 i 2) := by
  unfold zgI
  rw [obc_4 h]
  rfl
theorem pfc_4_2 {e : pE} {t : pS} {i : Nat} (ho : pOk e) (h : pIs e 4 i 0) (v : Int32) : zpI (pv e t) (some (pL e 4 i 0)) [1, 2] 2 v = some (pv e (wI t 4 i 2 v)) := by
  unfold zpI
  unfold zpf
  rw [obc_4 h]
  show some (z_up _ _ _) = _
  rw [pv_up ho h (t' := wI t 4 i 2 v) ?_ (fun y hy => pcell_wI y hy)]
  unfold pcell
  simp only [if_true]
  show Sum.inr (_, pfl e 4 i (up3 t.1 4 i 2 v 4 i) (qJ t 4 i)) = _
  simp [pfl, up3, qI, qJ, pci]
theorem gfc_4_3 {e : pE} {t : pS} {i : Nat} (h : pIs e 4 i 0) : zgI (pv e t) (some (pL e 4 i 0)) [1, 2] 3 = some (qI t 4 i 3) := by
  unfold zgI
  rw [obc_4 h]
  rfl
theorem pfc_4_3 {e : pE} {t : pS} {i : Nat} (ho : pOk e) (h : pIs e 4 i 0) (v : Int32) (hv : v = 0 ∨ v = 1) : zpZ (pv e t) (some (pL e 4 i 0)) [1, 2] 3 v = some (pv e (wI t 4 i 3 v)) := by
  unfold zpZ
  rw [if_pos hv]
  unfold zpf
  rw [obc_4 h]
  show some (z_up _ _ _) = _
  rw [pv_up ho h (t' := wI t 4 i 3 v) ?_ (fun y hy => pcell_wI y hy)]
  unfold pcell
  simp only [if_true]
  show Sum.inr (_, pfl e 4 i (up3 t.1 4 i 3 v 4 i) (qJ t 4 i)) = _
  simp [pfl, up3, qI, qJ, pci]
theorem ar_4_1 {e : pE} {t : pS} {i : Nat} (h : pIs e 4 i 1) : z_arr (pv e t) (some (pL e 4 i 1)) 0 = some (pL e 4 i 1, e.2.2.2 4 i 1, .inl (rI t 4 i 1)) := by
  unfold z_arr
  simp only [Option.bind_some, pv_at h]
  rfl
theorem al_4_1 {e : pE} {t : pS} {i : Nat} (h : pIs e 4 i 1) : zalen (pv e t) (some (pL e 4 i 1)) 0 = some (nI (e.2.2.2 4 i 1)) := by
  unfold zalen
  rw [ar_4_1 h]
  rfl
theorem ga_4_1 {e : pE} {t : pS} {i x : Nat} (h : pIs e 4 i 1) (hx : x < e.2.2.2 4 i 1) (hl : e.2.2.2 4 i 1 < 2 ^ 31) : zaI (pv e t) (some (pL e 4 i 1)) 0 (nI x) = some (rI t 4 i 1 x) := by
  unfold zaI
  rw [ar_4_1 h]
  show (if _ then _ else _) = _
  rw [if_neg (nI_in hx hl), nI_clamp (by omega)]
theorem sa_4_1 {e : pE} {t : pS} {i x : Nat} (ho : pOk e) (h : pIs e 4 i 1) (hx : x < e.2.2.2 4 i 1) (hl : e.2.2.2 4 i 1 < 2 ^ 31) (v : Int32) : zsI (pv e t) (some (pL e 4 i 1)) 0 (nI x) v = some (pv e (uI t 4 i 1 (upd (rI t 4 i 1) x v))) := by
  unfold zsI
  rw [ar_4_1 h]
  show (if _ then _ else _) = _
  rw [if_neg (nI_in hx hl), nI_clamp (by omega)]
  rw [pv_up ho h (t' := uI t 4 i 1 (upd (rI t 4 i 1) x v)) ?_ (fun y hy => pcell_uI y hy)]
  unfold pcell rI
  show Sum.inl (_, _, par9 _ _ _ _) = _
  simp [uI, up3, par9, pty]
theorem ar_4_2 {e : pE} {t : pS} {i : Nat} (h : pIs e 4 i 2) : z_arr (pv e t) (some (pL e 4 i 2)) 1 = some (pL e 4 i 2, e.2.2.2 4 i 2, .inr (.inl (rJ t 4 i 2))) := by
  unfold z_arr
  simp only [Option.bind_some, pv_at h]
  rfl
theorem al_4_2 {e : pE} {t : pS} {i : Nat} (h : pIs e 4 i 2) : zalen (pv e t) (some (pL e 4 i 2)) 1 = some (nI (e.2.2.2 4 i 2)) := by
  unfold zalen
  rw [ar_4_2 h]
  rfl
theorem ga_4_2 {e : pE} {t : pS} {i x : Nat} (h : pIs e 4 i 2) (hx : x < e.2.2.2 4 i 2) (hl : e.2.2.2 4 i 2 < 2 ^ 31) : zaL (pv e t) (some (pL e 4 i 2)) 1 (nI x) = some (rJ t 4 i 2 x) := by
  unfold zaL
  rw [ar_4_2 h]
  show (if _ then _ else _) = _
  rw [if_neg (nI_in hx hl), nI_clamp (by omega)]
theorem sa_4_2 {e : pE} {t : pS} {i x : Nat} (ho : pOk e) (h : pIs e 4 i 2) (hx : x < e.2.2.2 4 i 2) (hl : e.2.2.2 4 i 2 < 2 ^ 31) (v : Int64) : zsL (pv e t) (some (pL e 4 i 2)) 1 (nI x) v = some (pv e (uJ t 4 i 2 (vp_updL (rJ t 4 i 2) x v))) := by
  unfold zsL
  rw [ar_4_2 h]
  show (if _ then _ else _) = _
  rw [if_neg (nI_in hx hl), nI_clamp (by omega)]
  rw [pv_up ho h (t' := uJ t 4 i 2 (vp_updL (rJ t 4 i 2) x v)) ?_ (fun y hy => pcell_uJ y hy)]
  unfold pcell rJ
  show Sum.inl (_, _, par9 _ _ _ _) = _
  simp [uJ, up3, par9, pty]
theorem ob_5 {e : pE} {t : pS} {i : Nat} (h : pIs e 5 i 0) : z_obj (pv e t) (some (pL e 5 i 0)) [3] = some (pL e 5 i 0, 3, pfl e 5 i (qI t 5 i) (qJ t 5 i)) := by
  unfold z_obj
  simp only [Option.bind_some, pv_at h]
  rfl
theorem gf_5_0 {e : pE} {t : pS} {i : Nat} (h : pIs e 5 i 0) : zgI (pv e t) (some (pL e 5 i 0)) [3] 0 = some (qI t 5 i 0) := by
  unfold zgI
  rw [ob_5 h]
  rfl
theorem pf_5_0 {e : pE} {t : pS} {i : Nat} (ho : pOk e) (h : pIs e 5 i 0) (v : Int32) : zpI (pv e t) (some (pL e 5 i 0)) [3] 0 v = some (pv e (wI t 5 i 0 v)) := by
  unfold zpI
  unfold zpf
  rw [ob_5 h]
  show some (z_up _ _ _) = _
  rw [pv_up ho h (t' := wI t 5 i 0 v) ?_ (fun y hy => pcell_wI y hy)]
  unfold pcell
  simp only [if_true]
  show Sum.inr (_, pfl e 5 i (up3 t.1 5 i 0 v 5 i) (qJ t 5 i)) = _
  simp [pfl, up3, qI, qJ, pci]
theorem gf_5_1 {e : pE} {t : pS} {i : Nat} (h : pIs e 5 i 0) : zgR (pv e t) (some (pL e 5 i 0)) [3] 1 = some (some ((pL e 5 i 1))) := by
  unfold zgR
  rw [ob_5 h]
  rfl
theorem gf_5_2 {e : pE} {t : pS} {i : Nat} (h : pIs e 5 i 0) : zgR (pv e t) (some (pL e 5 i 0)) [3] 2 = some (some ((pL e 5 i 2))) := by
  unfold zgR
  rw [ob_5 h]
  rfl
theorem gf_5_3 {e : pE} {t : pS} {i : Nat} (h : pIs e 5 i 0) : zgR (pv e t) (some (pL e 5 i 0)) [3] 3 = some (some ((pL e 5 i 3))) := by
  unfold zgR
  rw [ob_5 h]
  rfl
theorem gf_5_4 {e : pE} {t : pS} {i : Nat} (h : pIs e 5 i 0) : zgR (pv e t) (some (pL e 5 i 0)) [3] 4 = some (some ((pL e 5 i 4))) := by
  unfold zgR
  rw [ob_5 h]
  rfl
theorem gf_5_5 {e : pE} {t : pS} {i : Nat} (h : pIs e 5 i 0) : zgR (pv e t) (some (pL e 5 i 0)) [3] 5 = some (some ((pL e 5 i 5))) := by
  unfold zgR
  rw [ob_5 h]
  rfl
theorem gf_5_6 {e : pE} {t : pS} {i : Nat} (h : pIs e 5 i 0) : zgR (pv e t) (some (pL e 5 i 0)) [3] 6 = some (some ((pL e 5 i 6))) := by
  unfold zgR
  rw [ob_5 h]
  rfl
theorem gf_5_7 {e : pE} {t : pS} {i : Nat} (h : pIs e 5 i 0) : zgI (pv e t) (some (pL e 5 i 0)) [3] 7 = some (qI t 5 i 7) := by
  unfold zgI
  rw [ob_5 h]
  rfl
theorem pf_5_7 {e : pE} {t : pS} {i : Nat} (ho : pOk e) (h : pIs e 5 i 0) (v : Int32) : zpI (pv e t) (some (pL e 5 i 0)) [3] 7 v = some (pv e (wI t 5 i 7 v)) := by
  unfold zpI
  unfold zpf
  rw [ob_5 h]
  show some (z_up _ _ _) = _
  rw [pv_up ho h (t' := wI t 5 i 7 v) ?_ (fun y hy => pcell_wI y hy)]
  unfold pcell
  simp only [if_true]
  show Sum.inr (_, pfl e 5 i (up3 t.1 5 i 7 v 5 i) (qJ t 5 i)) = _
  simp [pfl, up3, qI, qJ, pci]
theorem gf_5_8 {e : pE} {t : pS} {i : Nat} (h : pIs e 5 i 0) : zgI (pv e t) (some (pL e 5 i 0)) [3] 8 = some (qI t 5 i 8) := by
  unfold zgI
  rw [ob_5 h]
  rfl
theorem pf_5_8 {e : pE} {t : pS} {i : Nat} (ho : pOk e) (h : pIs e 5 i 0) (v : Int32) : zpI (pv e t) (some (pL e 5 i 0)) [3] 8 v = some (pv e (wI t 5 i 8 v)) := by
  unfold zpI
  unfold zpf
  rw [ob_5 h]
  show some (z_up _ _ _) = _
  rw [pv_up ho h (t' := wI t 5 i 8 v) ?_ (fun y hy => pcell_wI y hy)]
  unfold pcell
  simp only [if_true]
  show Sum.inr (_, pfl e 5 i (up3 t.1 5 i 8 v 5 i) (qJ t 5 i)) = _
  simp [pfl, up3, qI, qJ, pci]
theorem ar_5_1 {e : pE} {t : pS} {i : Nat} (h : pIs e 5 i 1) : z_arr (pv e t) (some (pL e 5 i 1)) 2 = some (pL e 5 i 1, e.2.2.2 5 i 1, .inl (rI t 5 i 1)) := by
  unfold z_arr
  simp only [Option.bind_some, pv_at h]
  rfl
theorem al_5_1 {e : pE} {t : pS} {i : Nat} (h : pIs e 5 i 1) : zalen (pv e t) (some (pL e 5 i 1)) 2 = some (nI (e.2.2.2 5 i 1)) := by
  unfold zalen
  rw [ar_5_1 h]
  rfl
theorem ga_5_1 {e : pE} {t : pS} {i x : Nat} (h : pIs e 5 i 1) (hx : x < e.2.2.2 5 i 1) (hl : e.2.2.2 5 i 1 < 2 ^ 31) : zaI (pv e t) (some (pL e 5 i 1)) 2 (nI x) = some (rI t 5 i 1 x) := by
  unfold zaI
  rw [ar_5_1 h]
  show (if _ then _ else _) = _
  rw [if_neg (nI_in hx hl), nI_clamp (by omega)]
theorem sa_5_1 {e : pE} {t : pS} {i x : Nat} (ho : pOk e) (h : pIs e 5 i 1) (hx : x < e.2.2.2 5 i 1) (hl : e.2.2.2 5 i 1 < 2 ^ 31) (v : Int32) (hv : v = 0 ∨ v = 1) : zsZ (pv e t) (some (pL e 5 i 1)) 2 (nI x) v = some (pv e (uI t 5 i 1 (upd (rI t 5 i 1) x v))) := by
  unfold zsZ
  rw [if_pos hv]
  unfold zsI
  rw [ar_5_1 h]
  show (if _ then _ else _) = _
  rw [if_neg (nI_in hx hl), nI_clamp (by omega)]
  rw [pv_up ho h (t' := uI t 5 i 1 (upd (rI t 5 i 1) x v)) ?_ (fun y hy => pcell_uI y hy)]
  unfold pcell rI
  show Sum.inl (_, _, par9 _ _ _ _) = _
  simp [uI, up3, par9, pty]
theorem ar_5_2 {e : pE} {t : pS} {i : Nat} (h : pIs e 5 i 2) : z_arr (pv e t) (some (pL e 5 i 2)) 2 = some (pL e 5 i 2, e.2.2.2 5 i 2, .inl (rI t 5 i 2)) := by
  unfold z_arr
  simp only [Option.bind_some, pv_at h]
  rfl
theorem al_5_2 {e : pE} {t : pS} {i : Nat} (h : pIs e 5 i 2) : zalen (pv e t) (some (pL e 5 i 2)) 2 = some (nI (e.2.2.2 5 i 2)) := by
  unfold zalen
  rw [ar_5_2 h]
  rfl
theorem ga_5_2 {e : pE} {t : pS} {i x : Nat} (h : pIs e 5 i 2) (hx : x < e.2.2.2 5 i 2) (hl : e.2.2.2 5 i 2 < 2 ^ 31) : zaI (pv e t) (some (pL e 5 i 2)) 2 (nI x) = some (rI t 5 i 2 x) := by
  unfold zaI
  rw [ar_5_2 h]
  show (if _ then _ else _) = _
  rw [if_neg (nI_in hx hl), nI_clamp (by omega)]
theorem sa_5_2 {e : pE} {t : pS} {i x : Nat} (ho : pOk e) (h : pIs e 5 i 2) (hx : x < e.2.2.2 5 i 2) (hl : e.2.2.2 5 i 2 < 2 ^ 31) (v : Int32) (hv : v = 0 ∨ v = 1) : zsZ (pv e t) (some (pL e 5 i 2)) 2 (nI x) v = some (pv e (uI t 5 i 2 (upd (rI t 5 i 2) x v))) := by
  unfold zsZ
  rw [if_pos hv]
  unfold zsI
  rw [ar_5_2 h]
  show (if _ then _ else _) = _
  rw [if_neg (nI_in hx hl), nI_clamp (by omega)]
  rw [pv_up ho h (t' := uI t 5 i 2 (upd (rI t 5 i 2) x v)) ?_ (fun y hy => pcell_uI y hy)]
  unfold pcell rI
  show Sum.inl (_, _, par9 _ _ _ _) = _
  simp [uI, up3, par9, pty]
theorem ar_5_3 {e : pE} {t : pS} {i : Nat} (h : pIs e 5 i 3) : z_arr (pv e t) (some (pL e 5 i 3)) 2 = some (pL e 5 i 3, e.2.2.2 5 i 3, .inl (rI t 5 i 3)) := by
  unfold z_arr
  simp only [Option.bind_some, pv_at h]
  rfl
theorem al_5_3 {e : pE} {t : pS} {i : Nat} (h : pIs e 5 i 3) : zalen (pv e t) (some (pL e 5 i 3)) 2 = some (nI (e.2.2.2 5 i 3)) := by
  unfold zalen
  rw [ar_5_3 h]
  rfl
theorem ga_5_3 {e : pE} {t : pS} {i x : Nat} (h : pIs e 5 i 3) (hx : x < e.2.2.2 5 i 3) (hl : e.2.2.2 5 i 3 < 2 ^ 31) : zaI (pv e t) (some (pL e 5 i 3)) 2 (nI x) = some (rI t 5 i 3 x) := by
  unfold zaI
  rw [ar_5_3 h]
  show (if _ then _ else _) = _
  rw [if_neg (nI_in hx hl), nI_clamp (by omega)]
theorem sa_5_3 {e : pE} {t : pS} {i x : Nat} (ho : pOk e) (h : pIs e 5 i 3) (hx : x < e.2.2.2 5 i 3) (hl : e.2.2.2 5 i 3 < 2 ^ 31) (v : Int32) (hv : v = 0 ∨ v = 1) : zsZ (pv e t) (some (pL e 5 i 3)) 2 (nI x) v = some (pv e (uI t 5 i 3 (upd (rI t 5 i 3) x v))) := by
  unfold zsZ
  rw [if_pos hv]
  unfold zsI
  rw [ar_5_3 h]
  show (if _ then _ else _) = _
  rw [if_neg (nI_in hx hl), nI_clamp (by omega)]
  rw [pv_up ho h (t' := uI t 5 i 3 (upd (rI t 5 i 3) x v)) ?_ (fun y hy => pcell_uI y hy)]
  unfold pcell rI
  show Sum.inl (_, _, par9 _ _ _ _) = _
  simp [uI, up3, par9, pty]
theorem ar_5_4 {e : pE} {t : pS} {i : Nat} (h : pIs e 5 i 4) : z_arr (pv e t) (some (pL e 5 i 4)) 1 = some (pL e 5 i 4, e.2.2.2 5 i 4, .inr (.inl (rJ t 5 i 4))) := by
  unfold z_arr
  simp only [Option.bind_some, pv_at h]
  rfl
theorem al_5_4 {e : pE} {t : pS} {i : Nat} (h : pIs e 5 i 4) : zalen (pv e t) (some (pL e 5 i 4)) 1 = some (nI (e.2.2.2 5 i 4)) := by
  unfold zalen
  rw [ar_5_4 h]
  rfl
theorem ga_5_4 {e : pE} {t : pS} {i x : Nat} (h : pIs e 5 i 4) (hx : x < e.2.2.2 5 i 4) (hl : e.2.2.2 5 i 4 < 2 ^ 31) : zaL (pv e t) (some (pL e 5 i 4)) 1 (nI x) = some (rJ t 5 i 4 x) := by
  unfold zaL
  rw [ar_5_4 h]
  show (if _ then _ else _) = _
  rw [if_neg (nI_in hx hl), nI_clamp (by omega)]
theorem sa_5_4 {e : pE} {t : pS} {i x : Nat} (ho : pOk e) (h : pIs e 5 i 4) (hx : x < e.2.2.2 5 i 4) (hl : e.2.2.2 5 i 4 < 2 ^ 31) (v : Int64) : zsL (pv e t) (some (pL e 5 i 4)) 1 (nI x) v = some (pv e (uJ t 5 i 4 (vp_updL (rJ t 5 i 4) x v))) := by
  unfold zsL
  rw [ar_5_4 h]
  show (if _ then _ else _) = _
  rw [if_neg (nI_in hx hl), nI_clamp (by omega)]
  rw [pv_up ho h (t' := uJ t 5 i 4 (vp_updL (rJ t 5 i 4) x v)) ?_ (fun y hy => pcell_uJ y hy)]
  unfold pcell rJ
  show Sum.inl (_, _, par9 _ _ _ _) = _
  simp [uJ, up3, par9, pty]
theorem ar_5_5 {e : pE} {t : pS} {i : Nat} (h : pIs e 5 i 5) : z_arr (pv e t) (some (pL e 5 i 5)) 0 = some (pL e 5 i 5, e.2.2.2 5 i 5, .inl (rI t 5 i 5)) := by
  unfold z_arr
  simp only [Option.bind_some, pv_at h]
  rfl
theorem al_5_5 {e : pE} {t : pS} {i : Nat} (h : pIs e 5 i 5) : zalen (pv e t) (some (pL e 5 i 5)) 0 = some (nI (e.2.2.2 5 i 5)) := by
  unfold zalen
  rw [ar_5_5 h]
  rfl
theorem ga_5_5 {e : pE} {t : pS} {i x : Nat} (h : pIs e 5 i 5) (hx : x < e.2.2.2 5 i 5) (hl : e.2.2.2 5 i 5 < 2 ^ 31) : zaI (pv e t) (some (pL e 5 i 5)) 0 (nI x) = some (rI t 5 i 5 x) := by
  unfold zaI
  rw [ar_5_5 h]
  show (if _ then _ else _) = _
  rw [if_neg (nI_in hx hl), nI_clamp (by omega)]
theorem sa_5_5 {e : pE} {t : pS} {i x : Nat} (ho : pOk e) (h : pIs e 5 i 5) (hx : x < e.2.2.2 5 i 5) (hl : e.2.2.2 5 i 5 < 2 ^ 31) (v : Int32) : zsI (pv e t) (some (pL e 5 i 5)) 0 (nI x) v = some (pv e (uI t 5 i 5 (upd (rI t 5 i 5) x v))) := by
  unfold zsI
  rw [ar_5_5 h]
  show (if _ then _ else _) = _
  rw [if_neg (nI_in hx hl), nI_clamp (by omega)]
  rw [pv_up ho h (t' := uI t 5 i 5 (upd (rI t 5 i 5) x v)) ?_ (fun y hy => pcell_uI y hy)]
  unfold pcell rI
  show Sum.inl (_, _, par9 _ _ _ _) = _
  simp [uI, up3, par9, pty]
theorem ar_5_6 {e : pE} {t : pS} {i : Nat} (h : pIs e 5 i 6) : z_arr (pv e t) (some (pL e 5 i 6)) 2 = some (pL e 5 i 6, e.2.2.2 5 i 6, .inl (rI t 5 i 6)) := by
  unfold z_arr
  simp only [Option.bind_some, pv_at h]
  rfl
theorem al_5_6 {e : pE} {t : pS} {i : Nat} (h : pIs e 5 i 6) : zalen (pv e t) (some (pL e 5 i 6)) 2 = some (nI (e.2.2.2 5 i 6)) := by
  unfold zalen
  rw [ar_5_6 h]
  rfl
theorem ga_5_6 {e : pE} {t : pS} {i x : Nat} (h : pIs e 5 i 6) (hx : x < e.2.2.2 5 i 6) (hl : e.2.2.2 5 i 6 < 2 ^ 31) : zaI (pv e t) (some (pL e 5 i 6)) 2 (nI x) = some (rI t 5 i 6 x) := by
  unfold zaI
  rw [ar_5_6 h]
  show (if _ then _ else _) = _
  rw [if_neg (nI_in hx hl), nI_clamp (by omega)]
theorem sa_5_6 {e : pE} {t : pS} {i x : Nat} (ho : pOk e) (h : pIs e 5 i 6) (hx : x < e.2.2.2 5 i 6) (hl : e.2.2.2 5 i 6 < 2 ^ 31) (v : Int32) (hv : v = 0 ∨ v = 1) : zsZ (pv e t) (some (pL e 5 i 6)) 2 (nI x) v = some (pv e (uI t 5 i 6 (upd (rI t 5 i 6) x v))) := by
  unfold zsZ
  rw [if_pos hv]
  unfold zsI
  rw [ar_5_6 h]
  show (if _ then _ else _) = _
  rw [if_neg (nI_in hx hl), nI_clamp (by omega)]
  rw [pv_up ho h (t' := uI t 5 i 6 (upd (rI t 5 i 6) x v)) ?_ (fun y hy => pcell_uI y hy)]
  unfold pcell rI
  show Sum.inl (_, _, par9 _ _ _ _) = _
  simp [uI, up3, par9, pty]
theorem ob_6 {e : pE} {t : pS} {i : Nat} (h : pIs e 6 i 0) : z_obj (pv e t) (some (pL e 6 i 0)) [6] = some (pL e 6 i 0, 6, pfl e 6 i (qI t 6 i) (qJ t 6 i)) := by
  unfold z_obj
  simp only [Option.bind_some, pv_at h]
  rfl
theorem gf_6_0 {e : pE} {t : pS} {i : Nat} (h : pIs e 6 i 0) : zgI (pv e t) (some (pL e 6 i 0)) [6] 0 = some (qI t 6 i 0) := by
  unfold zgI
  rw [ob_6 h]
  rfl
theorem pf_6_0 {e : pE} {t : pS} {i : Nat} (ho : pOk e) (h : pIs e 6 i 0) (v : Int32) : zpI (pv e t) (some (pL e 6 i 0)) [6] 0 v = some (pv e (wI t 6 i 0 v)) := by
  unfold zpI
  unfold zpf
  rw [ob_6 h]
  show some (z_up _ _ _) = _
  rw [pv_up ho h (t' := wI t 6 i 0 v) ?_ (fun y hy => pcell_wI y hy)]
  unfold pcell
  simp only [if_true]
  show Sum.inr (_, pfl e 6 i (up3 t.1 6 i 0 v 6 i) (qJ t 6 i)) = _
  simp [pfl, up3, qI, qJ, pci]
theorem gf_6_1 {e : pE} {t : pS} {i : Nat} (h : pIs e 6 i 0) : zgI (pv e t) (some (pL e 6 i 0)) [6] 1 = some (qI t 6 i 1) := by
  unfold zgI
  rw [ob_6 h]
  rfl
theorem pf_6_1 {e : pE} {t : pS} {i : Nat} (ho : pOk e) (h : pIs e 6 i 0) (v : Int32) : zpI (pv e t) (some (pL e 6 i 0)) [6] 1 v = some (pv e (wI t 6 i 1 v)) := by
  unfold zpI
  unfold zpf
  rw [ob_6 h]
  show some (z_up _ _ _) = _
  rw [pv_up ho h (t' := wI t 6 i 1 v) ?_ (fun y hy => pcell_wI y hy)]
  unfold pcell
  simp only [if_true]
  show Sum.inr (_, pfl e 6 i (up3 t.1 6 i 1 v 6 i) (qJ t 6 i)) = _
  simp [pfl, up3, qI, qJ, pci]
theorem gf_6_2 {e : pE} {t : pS} {i : Nat} (h : pIs e 6 i 0) : zgI (pv e t) (some (pL e 6 i 0)) [6] 2 = some (qI t 6 i 2) := by
  unfold zgI
  rw [ob_6 h]
  rfl
theorem pf_6_2 {e : pE} {t : pS} {i : Nat} (ho : pOk e) (h : pIs e 6 i 0) (v : Int32) (hv : v = 0 ∨ v = 1) : zpZ (pv e t) (some (pL e 6 i 0)) [6] 2 v = some (pv e (wI t 6 i 2 v)) := by
  unfold zpZ
  rw [if_pos hv]
  unfold zpf
  rw [ob_6 h]
  show some (z_up _ _ _) = _
  rw [pv_up ho h (t' := wI t 6 i 2 v) ?_ (fun y hy => pcell_wI y hy)]
  unfold pcell
  simp only [if_true]
  show Sum.inr (_, pfl e 6 i (up3 t.1 6 i 2 v 6 i) (qJ t 6 i)) = _
  simp [pfl, up3, qI, qJ, pci]
theorem gf_6_3 {e : pE} {t : pS} {i : Nat} (h : pIs e 6 i 0) : zgR (pv e t) (some (pL e 6 i 0)) [6] 3 = some (some ((pL e 6 i 1))) := by
  unfold zgR
  rw [ob_6 h]
  rfl
theorem gf_6_4 {e : pE} {t : pS} {i : Nat} (h : pIs e 6 i 0) : zgR (pv e t) (some (pL e 6 i 0)) [6] 4 = some (some ((pL e 6 i 2))) := by
  unfold zgR
  rw [ob_6 h]
  rfl
theorem gf_6_5 {e : pE} {t : pS} {i : Nat} (h : pIs e 6 i 0) : zgR (pv e t) (some (pL e 6 i 0)) [6] 5 = some (some ((pL e 6 i 3))) := by
  unfold zgR
  rw [ob_6 h]
  rfl
theorem gf_6_6 {e : pE} {t : pS} {i : Nat} (h : pIs e 6 i 0) : zgR (pv e t) (some (pL e 6 i 0)) [6] 6 = some (some ((pL e 6 i 4))) := by
  unfold zgR
  rw [ob_6 h]
  rfl
theorem gf_6_7 {e : pE} {t : pS} {i : Nat} (h : pIs e 6 i 0) : zgI (pv e t) (some (pL e 6 i 0)) [6] 7 = some (qI t 6 i 7) := by
  unfold zgI
  rw [ob_6 h]
  rfl
theorem pf_6_7 {e : pE} {t : pS} {i : Nat} (ho : pOk e) (h : pIs e 6 i 0) (v : Int32) : zpI (pv e t) (some (pL e 6 i 0)) [6] 7 v = some (pv e (wI t 6 i 7 v)) := by
  unfold zpI
  unfold zpf
  rw [ob_6 h]
  show some (z_up _ _ _) = _
  rw [pv_up ho h (t' := wI t 6 i 7 v) ?_ (fun y hy => pcell_wI y hy)]
  unfold pcell
  simp only [if_true]
  show Sum.inr (_, pfl e 6 i (up3 t.1 6 i 7 v 6 i) (qJ t 6 i)) = _
  simp [pfl, up3, qI, qJ, pci]
theorem gf_6_8 {e : pE} {t : pS} {i : Nat} (h : pIs e 6 i 0) : zgR (pv e t) (some (pL e 6 i 0)) [6] 8 = some (some ((pL e 6 i 5))) := by
  unfold zgR
  rw [ob_6 h]
  rfl
theorem gf_6_9 {e : pE} {t : pS} {i : Nat} (h : pIs e 6 i 0) : zgR (pv e t) (some (pL e 6 i 0)) [6] 9 = some (some ((pL e 6 i 6))) := by
  unfold zgR
  rw [ob_6 h]
  rfl
theorem gf_6_10 {e : pE} {t : pS} {i : Nat} (h : pIs e 6 i 0) : zgR (pv e t) (some (pL e 6 i 0)) [6] 10 = some (some ((pL e 6 i 7))) := by
  unfold zgR
  rw [ob_6 h]
  rfl
theorem gf_6_11 {e : pE} {t : pS} {i : Nat} (h : pIs e 6 i 0) : zgR (pv e t) (some (pL e 6 i 0)) [6] 11 = some (some ((pL e 6 i 8))) := by
  unfold zgR
  rw [ob_6 h]
  rfl
theorem gf_6_12 {e : pE} {t : pS} {i : Nat} (h : pIs e 6 i 0) : zgR (pv e t) (some (pL e 6 i 0)) [6] 12 = some (some ((pL e 6 i 9))) := by
  unfold zgR
  rw [ob_6 h]
  rfl
theorem gf_6_13 {e : pE} {t : pS} {i : Nat} (h : pIs e 6 i 0) : zgR (pv e t) (some (pL e 6 i 0)) [6] 13 = some (some ((pL e 6 i 10))) := by
  unfold zgR
  rw [ob_6 h]
  rfl
theorem gf_6_14 {e : pE} {t : pS} {i : Nat} (h : pIs e 6 i 0) : zgR (pv e t) (some (pL e 6 i 0)) [6] 14 = some (some ((pL e 6 i 11))) := by
  unfold zgR
  rw [ob_6 h]
  rfl
theorem gf_6_15 {e : pE} {t : pS} {i : Nat} (h : pIs e 6 i 0) : zgR (pv e t) (some (pL e 6 i 0)) [6] 15 = some (some ((pL e 6 i 12))) := by
  unfold zgR
  rw [ob_6 h]
  rfl
theorem gf_6_16 {e : pE} {t : pS} {i : Nat} (h : pIs e 6 i 0) : zgR (pv e t) (some (pL e 6 i 0)) [6] 16 = some (some ((pL e 6 i 13))) := by
  unfold zgR
  rw [ob_6 h]
  rfl
theorem gf_6_17 {e : pE} {t : pS} {i : Nat} (h : pIs e 6 i 0) : zgR (pv e t) (some (pL e 6 i 0)) [6] 17 = some (some ((pL e 6 i 14))) := by
  unfold zgR
  rw [ob_6 h]
  rfl
theorem gf_6_18 {e : pE} {t : pS} {i : Nat} (h : pIs e 6 i 0) : zgR (pv e t) (some (pL e 6 i 0)) [6] 18 = some (some ((pL e 6 i 15))) := by
  unfold zgR
  rw [ob_6 h]
  rfl
theorem gf_6_19 {e : pE} {t : pS} {i : Nat} (h : pIs e 6 i 0) : zgI (pv e t) (some (pL e 6 i 0)) [6] 19 = some (qI t 6 i 19) := by
  unfold zgI
  rw [ob_6 h]
  rfl
theorem pf_6_19 {e : pE} {t : pS} {i : Nat} (ho : pOk e) (h : pIs e 6 i 0) (v : Int32) : zpI (pv e t) (some (pL e 6 i 0)) [6] 19 v = some (pv e (wI t 6 i 19 v)) := by
  unfold zpI
  unfold zpf
  rw [ob_6 h]
  show some (z_up _ _ _) = _
  rw [pv_up ho h (t' := wI t 6 i 19 v) ?_ (fun y hy => pcell_wI y hy)]
  unfold pcell
  simp only [if_true]
  show Sum.inr (_, pfl e 6 i (up3 t.1 6 i 19 v 6 i) (qJ t 6 i)) = _
  simp [pfl, up3, qI, qJ, pci]
theorem gf_6_20 {e : pE} {t : pS} {i : Nat} (h : pIs e 6 i 0) : zgR (pv e t) (some (pL e 6 i 0)) [6] 20 = some (some ((pL e 6 i 16))) := by
  unfold zgR
  rw [ob_6 h]
  rfl
theorem gf_6_21 {e : pE} {t : pS} {i : Nat} (h : pIs e 6 i 0) : zgR (pv e t) (some (pL e 6 i 0)) [6] 21 = some (some ((pL e 6 i 17))) := by
  unfold zgR
  rw [ob_6 h]
  rfl
theorem gf_6_22 {e : pE} {t : pS} {i : Nat} (h : pIs e 6 i 0) : zgR (pv e t) (some (pL e 6 i 0)) [6] 22 = some (some ((pL e 6 i 18))) := by
  unfold zgR
  rw [ob_6 h]
  rfl
theorem gf_6_23 {e : pE} {t : pS} {i : Nat} (h : pIs e 6 i 0) : zgR (pv e t) (some (pL e 6 i 0)) [6] 23 = some (some ((pL e 6 i 19))) := by
  unfold zgR
  rw [ob_6 h]
  rfl
theorem gf_6_24 {e : pE} {t : pS} {i : Nat} (h : pIs e 6 i 0) : zgR (pv e t) (some (pL e 6 i 0)) [6] 24 = some (some ((pL e 6 i 20))) := by
  unfold zgR
  rw [ob_6 h]
  rfl
theorem gf_6_25 {e : pE} {t : pS} {i : Nat} (h : pIs e 6 i 0) : zgR (pv e t) (some (pL e 6 i 0)) [6] 25 = some (some ((pL e 6 i 21))) := by
  unfold zgR
  rw [ob_6 h]
  rfl
theorem gf_6_26 {e : pE} {t : pS} {i : Nat} (h : pIs e 6 i 0) : zgR (pv e t) (some (pL e 6 i 0)) [6] 26 = some (some ((pL e 6 i 22))) := by
  unfold zgR
  rw [ob_6 h]
  rfl
theorem gf_6_27 {e : pE} {t : pS} {i : Nat} (h : pIs e 6 i 0) : zgR (pv e t) (some (pL e 6 i 0)) [6] 27 = some (some ((pL e 6 i 23))) := by
  unfold zgR
  rw [ob_6 h]
  rfl
theorem gf_6_28 {e : pE} {t : pS} {i : Nat} (h : pIs e 6 i 0) : zgR (pv e t) (some (pL e 6 i 0)) [6] 28 = some (some ((pL e 6 i 24))) := by
  unfold zgR
  rw [ob_6 h]
  rfl
theorem gf_6_29 {e : pE} {t : pS} {i : Nat} (h : pIs e 6 i 0) : zgI (pv e t) (some (pL e 6 i 0)) [6] 29 = some (qI t 6 i 29) := by
  unfold zgI
  rw [ob_6 h]
  rfl
theorem pf_6_29 {e : pE} {t : pS} {i : Nat} (ho : pOk e) (h : pIs e 6 i 0) (v : Int32) : zpI (pv e t) (some (pL e 6 i 0)) [6] 29 v = some (pv e (wI t 6 i 29 v)) := by
  unfold zpI
  unfold zpf
  rw [ob_6 h]
  show some (z_up _ _ _) = _
  rw [pv_up ho h (t' := wI t 6 i 29 v) ?_ (fun y hy => pcell_wI y hy)]
  unfold pcell
  simp only [if_true]
  show Sum.inr (_, pfl e 6 i (up3 t.1 6 i 29 v 6 i) (qJ t 6 i)) = _
  simp [pfl, up3, qI, qJ, pci]
theorem gf_6_30 {e : pE} {t : pS} {i : Nat} (h : pIs e 6 i 0) : zgR (pv e t) (some (pL e 6 i 0)) [6] 30 = some (some ((pL e 6 i 25))) := by
  unfold zgR
  rw [ob_6 h]
  rfl
theorem gf_6_31 {e : pE} {t : pS} {i : Nat} (h : pIs e 6 i 0) : zgR (pv e t) (some (pL e 6 i 0)) [6] 31 = some (some ((pL e 6 i 26))) := by
  unfold zgR
  rw [ob_6 h]
  rfl
theorem gf_6_32 {e : pE} {t : pS} {i : Nat} (h : pIs e 6 i 0) : zgR (pv e t) (some (pL e 6 i 0)) [6] 32 = some (some ((pL e 6 i 27))) := by
  unfold zgR
  rw [ob_6 h]
  rfl
theorem gf_6_33 {e : pE} {t : pS} {i : Nat} (h : pIs e 6 i 0) : zgR (pv e t) (some (pL e 6 i 0)) [6] 33 = some (some ((pL e 6 i 28))) := by
  unfold zgR
  rw [ob_6 h]
  rfl
theorem ar_6_1 {e : pE} {t : pS} {i : Nat} (h : pIs e 6 i 1) : z_arr (pv e t) (some (pL e 6 i 1)) 1 = some (pL e 6 i 1, e.2.2.2 6 i 1, .inr (.inl (rJ t 6 i 1))) := by
  unfold z_arr
  simp only [Option.bind_some, pv_at h]
  rfl
theorem al_6_1 {e : pE} {t : pS} {i : Nat} (h : pIs e 6 i 1) : zalen (pv e t) (some (pL e 6 i 1)) 1 = some (nI (e.2.2.2 6 i 1)) := by
  unfold zalen
  rw [ar_6_1 h]
  rfl
theorem ga_6_1 {e : pE} {t : pS} {i x : Nat} (h : pIs e 6 i 1) (hx : x < e.2.2.2 6 i 1) (hl : e.2.2.2 6 i 1 < 2 ^ 31) : zaL (pv e t) (some (pL e 6 i 1)) 1 (nI x) = some (rJ t 6 i 1 x) := by
  unfold zaL
  rw [ar_6_1 h]
  show (if _ then _ else _) = _
  rw [if_neg (nI_in hx hl), nI_clamp (by omega)]
theorem sa_6_1 {e : pE} {t : pS} {i x : Nat} (ho : pOk e) (h : pIs e 6 i 1) (hx : x < e.2.2.2 6 i 1) (hl : e.2.2.2 6 i 1 < 2 ^ 31) (v : Int64) : zsL (pv e t) (some (pL e 6 i 1)) 1 (nI x) v = some (pv e (uJ t 6 i 1 (vp_updL (rJ t 6 i 1) x v))) := by
  unfold zsL
  rw [ar_6_1 h]
  show (if _ then _ else _) = _
  rw [if_neg (nI_in hx hl), nI_clamp (by omega)]
  rw [pv_up ho h (t' := uJ t 6 i 1 (vp_updL (rJ t 6 i 1) x v)) ?_ (fun y hy => pcell_uJ y hy)]
  unfold pcell rJ
  show Sum.inl (_, _, par9 _ _ _ _) = _
  simp [uJ, up3, par9, pty]
theorem ar_6_2 {e : pE} {t : pS} {i : Nat} (h : pIs e 6 i 2) : z_arr (pv e t) (some (pL e 6 i 2)) 0 = some (pL e 6 i 2, e.2.2.2 6 i 2, .inl (rI t 6 i 2)) := by
  unfold z_arr
  simp only [Option.bind_some, pv_at h]
  rfl
theorem al_6_2 {e : pE} {t : pS} {i : Nat} (h : pIs e 6 i 2) : zalen (pv e t) (some (pL e 6 i 2)) 0 = some (nI (e.2.2.2 6 i 2)) := by
  unfold zalen
  rw [ar_6_2 h]
  rfl
theorem ga_6_2 {e : pE} {t : pS} {i x : Nat} (h : pIs e 6 i 2) (hx : x < e.2.2.2 6 i 2) (hl : e.2.2.2 6 i 2 < 2 ^ 31) : zaI (pv e t) (some (pL e 6 i 2)) 0 (nI x) = some (rI t 6 i 2 x) := by
  unfold zaI
  rw [ar_6_2 h]
  show (if _ then _ else _) = _
  rw [if_neg (nI_in hx hl), nI_clamp (by omega)]
theorem sa_6_2 {e : pE} {t : pS} {i x : Nat} (ho : pOk e) (h : pIs e 6 i 2) (hx : x < e.2.2.2 6 i 2) (hl : e.2.2.2 6 i 2 < 2 ^ 31) (v : Int32) : zsI (pv e t) (some (pL e 6 i 2)) 0 (nI x) v = some (pv e (uI t 6 i 2 (upd (rI t 6 i 2) x v))) := by
  unfold zsI
  rw [ar_6_2 h]
  show (if _ then _ else _) = _
  rw [if_neg (nI_in hx hl), nI_clamp (by omega)]
  rw [pv_up ho h (t' := uI t 6 i 2 (upd (rI t 6 i 2) x v)) ?_ (fun y hy => pcell_uI y hy)]
  unfold pcell rI
  show Sum.inl (_, _, par9 _ _ _ _) = _
  simp [uI, up3, par9, pty]
theorem ar_6_3 {e : pE} {t : pS} {i : Nat} (h : pIs e 6 i 3) : z_arr (pv e t) (some (pL e 6 i 3)) 2 = some (pL e 6 i 3, e.2.2.2 6 i 3, .inl (rI t 6 i 3)) := by
  unfold z_arr
  simp only [Option.bind_some, pv_at h]
  rfl
theorem al_6_3 {e : pE} {t : pS} {i : Nat} (h : pIs e 6 i 3) : zalen (pv e t) (some (pL e 6 i 3)) 2 = some (nI (e.2.2.2 6 i 3)) := by
  unfold zalen
  rw [ar_6_3 h]
  rfl
theorem ga_6_3 {e : pE} {t : pS} {i x : Nat} (h : pIs e 6 i 3) (hx : x < e.2.2.2 6 i 3) (hl : e.2.2.2 6 i 3 < 2 ^ 31) : zaI (pv e t) (some (pL e 6 i 3)) 2 (nI x) = some (rI t 6 i 3 x) := by
  unfold zaI
  rw [ar_6_3 h]
  show (if _ then _ else _) = _
  rw [if_neg (nI_in hx hl), nI_clamp (by omega)]
theorem sa_6_3 {e : pE} {t : pS} {i x : Nat} (ho : pOk e) (h : pIs e 6 i 3) (hx : x < e.2.2.2 6 i 3) (hl : e.2.2.2 6 i 3 < 2 ^ 31) (v : Int32) (hv : v = 0 ∨ v = 1) : zsZ (pv e t) (some (pL e 6 i 3)) 2 (nI x) v = some (pv e (uI t 6 i 3 (upd (rI t 6 i 3) x v))) := by
  unfold zsZ
  rw [if_pos hv]
  unfold zsI
  rw [ar_6_3 h]
  show (if _ then _ else _) = _
  rw [if_neg (nI_in hx hl), nI_clamp (by omega)]
  rw [pv_up ho h (t' := uI t 6 i 3 (upd (rI t 6 i 3) x v)) ?_ (fun y hy => pcell_uI y hy)]
  unfold pcell rI
  show Sum.inl (_, _, par9 _ _ _ _) = _
  simp [uI, up3, par9, pty]
theorem ar_6_4 {e : pE} {t : pS} {i : Nat} (h : pIs e 6 i 4) : z_arr (pv e t) (some (pL e 6 i 4)) 0 = some (pL e 6 i 4, e.2.2.2 6 i 4, .inl (rI t 6 i 4)) := by
  unfold z_arr
  simp only [Option.bind_some, pv_at h]
  rfl
theorem al_6_4 {e : pE} {t : pS} {i : Nat} (h : pIs e 6 i 4) : zalen (pv e t) (some (pL e 6 i 4)) 0 = some (nI (e.2.2.2 6 i 4)) := by
  unfold zalen
  rw [ar_6_4 h]
  rfl
theorem ga_6_4 {e : pE} {t : pS} {i x : Nat} (h : pIs e 6 i 4) (hx : x < e.2.2.2 6 i 4) (hl : e.2.2.2 6 i 4 < 2 ^ 31) : zaI (pv e t) (some (pL e 6 i 4)) 0 (nI x) = some (rI t 6 i 4 x) := by
  unfold zaI
  rw [ar_6_4 h]
  show (if _ then _ else _) = _
  rw [if_neg (nI_in hx hl), nI_clamp (by omega)]
theorem sa_6_4 {e : pE} {t : pS} {i x : Nat} (ho : pOk e) (h : pIs e 6 i 4) (hx : x < e.2.2.2 6 i 4) (hl : e.2.2.2 6 i 4 < 2 ^ 31) (v : Int32) : zsI (pv e t) (some (pL e 6 i 4)) 0 (nI x) v = some (pv e (uI t 6 i 4 (upd (rI t 6 i 4) x v))) := by
  unfold zsI
  rw [ar_6_4 h]
  show (if _ then _ else _) = _
  rw [if_neg (nI_in hx hl), nI_clamp (by omega)]
  rw [pv_up ho h (t' := uI t 6 i 4 (upd (rI t 6 i 4) x v)) ?_ (fun y hy => pcell_uI y hy)]
  unfold pcell rI
  show Sum.inl (_, _, par9 _ _ _ _) = _
  simp [uI, up3, par9, pty]
theorem ar_6_5 {e : pE} {t : pS} {i : Nat} (h : pIs e 6 i 5) : z_arr (pv e t) (some (pL e 6 i 5)) 0 = some (pL e 6 i 5, e.2.2.2 6 i 5, .inl (rI t 6 i 5)) := by
  unfold z_arr
  simp only [Option.bind_some, pv_at h]
  rfl
theorem al_6_5 {e : pE} {t : pS} {i : Nat} (h : pIs e 6 i 5) : zalen (pv e t) (some (pL e 6 i 5)) 0 = some (nI (e.2.2.2 6 i 5)) := by
  unfold zalen
  rw [ar_6_5 h]
  rfl
theorem ga_6_5 {e : pE} {t : pS} {i x : Nat} (h : pIs e 6 i 5) (hx : x < e.2.2.2 6 i 5) (hl : e.2.2.2 6 i 5 < 2 ^ 31) : zaI (pv e t) (some (pL e 6 i 5)) 0 (nI x) = some (rI t 6 i 5 x) := by
  unfold zaI
  rw [ar_6_5 h]
  show (if _ then _ else _) = _
  rw [if_neg (nI_in hx hl), nI_clamp (by omega)]
theorem sa_6_5 {e : pE} {t : pS} {i x : Nat} (ho : pOk e) (h : pIs e 6 i 5) (hx : x < e.2.2.2 6 i 5) (hl : e.2.2.2 6 i 5 < 2 ^ 31) (v : Int32) : zsI (pv e t) (some (pL e 6 i 5)) 0 (nI x) v = some (pv e (uI t 6 i 5 (upd (rI t 6 i 5) x v))) := by
  unfold zsI
  rw [ar_6_5 h]
  show (if _ then _ else _) = _
  rw [if_neg (nI_in hx hl), nI_clamp (by omega)]
  rw [pv_up ho h (t' := uI t 6 i 5 (upd (rI t 6 i 5) x v)) ?_ (fun y hy => pcell_uI y hy)]
  unfold pcell rI
  show Sum.inl (_, _, par9 _ _ _ _) = _
  simp [uI, up3, par9, pty]
theorem ar_6_6 {e : pE} {t : pS} {i : Nat} (h : pIs e 6 i 6) : z_arr (pv e t) (some (pL e 6 i 6)) 0 = some (pL e 6 i 6, e.2.2.2 6 i 6, .inl (rI t 6 i 6)) := by
  unfold z_arr
  simp only [Option.bind_some, pv_at h]
  rfl
theorem al_6_6 {e : pE} {t : pS} {i : Nat} (h : pIs e 6 i 6) : zalen (pv e t) (some (pL e 6 i 6)) 0 = some (nI (e.2.2.2 6 i 6)) := by
  unfold zalen
  rw [ar_6_6 h]
  rfl
theorem ga_6_6 {e : pE} {t : pS} {i x : Nat} (h : pIs e 6 i 6) (hx : x < e.2.2.2 6 i 6) (hl : e.2.2.2 6 i 6 < 2 ^ 31) : zaI (pv e t) (some (pL e 6 i 6)) 0 (nI x) = some (rI t 6 i 6 x) := by
  unfold zaI
  rw [ar_6_6 h]
  show (if _ then _ else _) = _
  rw [if_neg (nI_in hx hl), nI_clamp (by omega)]
theorem sa_6_6 {e : pE} {t : pS} {i x : Nat} (ho : pOk e) (h : pIs e 6 i 6) (hx : x < e.2.2.2 6 i 6) (hl : e.2.2.2 6 i 6 < 2 ^ 31) (v : Int32) : zsI (pv e t) (some (pL e 6 i 6)) 0 (nI x) v = some (pv e (uI t 6 i 6 (upd (rI t 6 i 6) x v))) := by
  unfold zsI
  rw [ar_6_6 h]
  show (if _ then _ else _) = _
  rw [if_neg (nI_in hx hl), nI_clamp (by omega)]
  rw [pv_up ho h (t' := uI t 6 i 6 (upd (rI t 6 i 6) x v)) ?_ (fun y hy => pcell_uI y hy)]
  unfold pcell rI
  show Sum.inl (_, _, par9 _ _ _ _) = _
  simp [uI, up3, par9, pty]
theorem ar_6_7 {e : pE} {t : pS} {i : Nat} (h : pIs e 6 i 7) : z_arr (pv e t) (some (pL e 6 i 7)) 0 = some (pL e 6 i 7, e.2.2.2 6 i 7, .inl (rI t 6 i 7)) := by
  unfold z_arr
  simp only [Option.bind_some, pv_at h]
  rfl
theorem al_6_7 {e : pE} {t : pS} {i : Nat} (h : pIs e 6 i 7) : zalen (pv e t) (some (pL e 6 i 7)) 0 = some (nI (e.2.2.2 6 i 7)) := by
  unfold zalen
  rw [ar_6_7 h]
  rfl
theorem ga_6_7 {e : pE} {t : pS} {i x : Nat} (h : pIs e 6 i 7) (hx : x < e.2.2.2 6 i 7) (hl : e.2.2.2 6 i 7 < 2 ^ 31) : zaI (pv e t) (some (pL e 6 i 7)) 0 (nI x) = some (rI t 6 i 7 x) := by
  unfold zaI
  rw [ar_6_7 h]
  show (if _ then _ else _) = _
  rw [if_neg (nI_in hx hl), nI_clamp (by omega)]
theorem sa_6_7 {e : pE} {t : pS} {i x : Nat} (ho : pOk e) (h : pIs e 6 i 7) (hx : x < e.2.2.2 6 i 7) (hl : e.2.2.2 6 i 7 < 2 ^ 31) (v : Int32) : zsI (pv e t) (some (pL e 6 i 7)) 0 (nI x) v = some (pv e (uI t 6 i 7 (upd (rI t 6 i 7) x v))) := by
  unfold zsI
  rw [ar_6_7 h]
  show (if _ then _ else _) = _
  rw [if_neg (nI_in hx hl), nI_clamp (by omega)]
  rw [pv_up ho h (t' := uI t 6 i 7 (upd (rI t 6 i 7) x v)) ?_ (fun y hy => pcell_uI y hy)]
  unfold pcell rI
  show Sum.inl (_, _, par9 _ _ _ _) = _
  simp [uI, up3, par9, pty]
theorem ar_6_8 {e : pE} {t : pS} {i : Nat} (h : pIs e 6 i 8) : z_arr (pv e t) (some (pL e 6 i 8)) 1 = some (pL e 6 i 8, e.2.2.2 6 i 8, .inr (.inl (rJ t 6 i 8))) := by
  unfold z_arr
  simp only [Option.bind_some, pv_at h]
  rfl
theorem al_6_8 {e : pE} {t : pS} {i : Nat} (h : pIs e 6 i 8) : zalen (pv e t) (some (pL e 6 i 8)) 1 = some (nI (e.2.2.2 6 i 8)) := by
  unfold zalen
  rw [ar_6_8 h]
  rfl
theorem ga_6_8 {e : pE} {t : pS} {i x : Nat} (h : pIs e 6 i 8) (hx : x < e.2.2.2 6 i 8) (hl : e.2.2.2 6 i 8 < 2 ^ 31) : zaL (pv e t) (some (pL e 6 i 8)) 1 (nI x) = some (rJ t 6 i 8 x) := by
  unfold zaL
  rw [ar_6_8 h]
  show (if _ then _ else _) = _
  rw [if_neg (nI_in hx hl), nI_clamp (by omega)]
theorem sa_6_8 {e : pE} {t : pS} {i x : Nat} (ho : pOk e) (h : pIs e 6 i 8) (hx : x < e.2.2.2 6 i 8) (hl : e.2.2.2 6 i 8 < 2 ^ 31) (v : Int64) : zsL (pv e t) (some (pL e 6 i 8)) 1 (nI x) v = some (pv e (uJ t 6 i 8 (vp_updL (rJ t 6 i 8) x v))) := by
  unfold zsL
  rw [ar_6_8 h]
  show (if _ then _ else _) = _
  rw [if_neg (nI_in hx hl), nI_clamp (by omega)]
  rw [pv_up ho h (t' := uJ t 6 i 8 (vp_updL (rJ t 6 i 8) x v)) ?_ (fun y hy => pcell_uJ y hy)]
  unfold pcell rJ
  show Sum.inl (_, _, par9 _ _ _ _) = _
  simp [uJ, up3, par9, pty]
theorem ar_6_9 {e : pE} {t : pS} {i : Nat} (h : pIs e 6 i 9) : z_arr (pv e t) (some (pL e 6 i 9)) 0 = some (pL e 6 i 9, e.2.2.2 6 i 9, .inl (rI t 6 i 9)) := by
  unfold z_arr
  simp only [Option.bind_some, pv_at h]
  rfl
theorem al_6_9 {e : pE} {t : pS} {i : Nat} (h : pIs e 6 i 9) : zalen (pv e t) (some (pL e 6 i 9)) 0 = some (nI (e.2.2.2 6 i 9)) := by
  unfold zalen
  rw [ar_6_9 h]
  rfl
theorem ga_6_9 {e : pE} {t : pS} {i x : Nat} (h : pIs e 6 i 9) (hx : x < e.2.2.2 6 i 9) (hl : e.2.2.2 6 i 9 < 2 ^ 31) : zaI (pv e t) (some (pL e 6 i 9)) 0 (nI x) = some (rI t 6 i 9 x) := by
  unfold zaI
  rw [ar_6_9 h]
  show (if _ then _ else _) = _
  rw [if_neg (nI_in hx hl), nI_clamp (by omega)]
theorem sa_6_9 {e : pE} {t : pS} {i x : Nat} (ho : pOk e) (h : pIs e 6 i 9) (hx : x < e.2.2.2 6 i 9) (hl : e.2.2.2 6 i 9 < 2 ^ 31) (v : Int32) : zsI (pv e t) (some (pL e 6 i 9)) 0 (nI x) v = some (pv e (uI t 6 i 9 (upd (rI t 6 i 9) x v))) := by
  unfold zsI
  rw [ar_6_9 h]
  show (if _ then _ else _) = _
  rw [if_neg (nI_in hx hl), nI_clamp (by omega)]
  rw [pv_up ho h (t' := uI t 6 i 9 (upd (rI t 6 i 9) x v)) ?_ (fun y hy => pcell_uI y hy)]
  unfold pcell rI
  show Sum.inl (_, _, par9 _ _ _ _) = _
  simp [uI, up3, par9, pty]
theorem ar_6_10 {e : pE} {t : pS} {i : Nat} (h : pIs e 6 i 10) : z_arr (pv e t) (some (pL e 6 i 10)) 1 = some (pL e 6 i 10, e.2.2.2 6 i 10, .inr (.inl (rJ t 6 i 10))) := by
  unfold z_arr
  simp only [Option.bind_some, pv_at h]
  rfl
theorem al_6_10 {e : pE} {t : pS} {i : Nat} (h : pIs e 6 i 10) : zalen (pv e t) (some (pL e 6 i 10)) 1 = some (nI (e.2.2.2 6 i 10)) := by
  unfold zalen
  rw [ar_6_10 h]
  rfl
theorem ga_6_10 {e : pE} {t : pS} {i x : Nat} (h : pIs e 6 i 10) (hx : x < e.2.2.2 6 i 10) (hl : e.2.2.2 6 i 10 < 2 ^ 31) : zaL (pv e t) (some (pL e 6 i 10)) 1 (nI x) = some (rJ t 6 i 10 x) := by
  unfold zaL
  rw [ar_6_10 h]
  show (if _ then _ else _) = _
  rw [if_neg (nI_in hx hl), nI_clamp (by omega)]
theorem sa_6_10 {e : pE} {t : pS} {i x : Nat} (ho : pOk e) (h : pIs e 6 i 10) (hx : x < e.2.2.2 6 i 10) (hl : e.2.2.2 6 i 10 < 2 ^ 31) (v : Int64) : zsL (pv e t) (some (pL e 6 i 10)) 1 (nI x) v = some (pv e (uJ t 6 i 10 (vp_updL (rJ t 6 i 10) x v))) := by
  unfold zsL
  rw [ar_6_10 h]
  show (if _ then _ else _) = _
  rw [if_neg (nI_in hx hl), nI_clamp (by omega)]
  rw [pv_up ho h (t' := uJ t 6 i 10 (vp_updL (rJ t 6 i 10) x v)) ?_ (fun y hy => pcell_uJ y hy)]
  unfold pcell rJ
  show Sum.inl (_, _, par9 _ _ _ _) = _
  simp [uJ, up3, par9, pty]
theorem ar_6_11 {e : pE} {t : pS} {i : Nat} (h : pIs e 6 i 11) : z_arr (pv e t) (some (pL e 6 i 11)) 0 = some (pL e 6 i 11, e.2.2.2 6 i 11, .inl (rI t 6 i 11)) := by
  unfold z_arr
  simp only [Option.bind_some, pv_at h]
  rfl
theorem al_6_11 {e : pE} {t : pS} {i : Nat} (h : pIs e 6 i 11) : zalen (pv e t) (some (pL e 6 i 11)) 0 = some (nI (e.2.2.2 6 i 11)) := by
  unfold zalen
  rw [ar_6_11 h]
  rfl
theorem ga_6_11 {e : pE} {t : pS} {i x : Nat} (h : pIs e 6 i 11) (hx : x < e.2.2.2 6 i 11) (hl : e.2.2.2 6 i 11 < 2 ^ 31) : zaI (pv e t) (some (pL e 6 i 11)) 0 (nI x) = some (rI t 6 i 11 x) := by
  unfold zaI
  rw [ar_6_11 h]
  show (if _ then _ else _) = _
  rw [if_neg (nI_in hx hl), nI_clamp (by omega)]
theorem sa_6_11 {e : pE} {t : pS} {i x : Nat} (ho : pOk e) (h : pIs e 6 i 11) (hx : x < e.2.2.2 6 i 11) (hl : e.2.2.2 6 i 11 < 2 ^ 31) (v : Int32) : zsI (pv e t) (some (pL e 6 i 11)) 0 (nI x) v = some (pv e (uI t 6 i 11 (upd (rI t 6 i 11) x v))) := by
  unfold zsI
  rw [ar_6_11 h]
  show (if _ then _ else _) = _
  rw [if_neg (nI_in hx hl), nI_clamp (by omega)]
  rw [pv_up ho h (t' := uI t 6 i 11 (upd (rI t 6 i 11) x v)) ?_ (fun y hy => pcell_uI y hy)]
  unfold pcell rI
  show Sum.inl (_, _, par9 _ _ _ _) = _
  simp [uI, up3, par9, pty]
theorem ar_6_12 {e : pE} {t : pS} {i : Nat} (h : pIs e 6 i 12) : z_arr (pv e t) (some (pL e 6 i 12)) 2 = some (pL e 6 i 12, e.2.2.2 6 i 12, .inl (rI t 6 i 12)) := by
  unfold z_arr
  simp only [Option.bind_some, pv_at h]
  rfl
theorem al_6_12 {e : pE} {t : pS} {i : Nat} (h : pIs e 6 i 12) : zalen (pv e t) (some (pL e 6 i 12)) 2 = some (nI (e.2.2.2 6 i 12)) := by
  unfold zalen
  rw [ar_6_12 h]
  rfl
theorem ga_6_12 {e : pE} {t : pS} {i x : Nat} (h : pIs e 6 i 12) (hx : x < e.2.2.2 6 i 12) (hl : e.2.2.2 6 i 12 < 2 ^ 31) : zaI (pv e t) (some (pL e 6 i 12)) 2 (nI x) = some (rI t 6 i 12 x) := by
  unfold zaI
  rw [ar_6_12 h]
  show (if _ then _ else _) = _
  rw [if_neg (nI_in hx hl), nI_clamp (by omega)]
theorem sa_6_12 {e : pE} {t : pS} {i x : Nat} (ho : pOk e) (h : pIs e 6 i 12) (hx : x < e.2.2.2 6 i 12) (hl : e.2.2.2 6 i 12 < 2 ^ 31) (v : Int32) (hv : v = 0 ∨ v = 1) : zsZ (pv e t) (some (pL e 6 i 12)) 2 (nI x) v = some (pv e (uI t 6 i 12 (upd (rI t 6 i 12) x v))) := by
  unfold zsZ
  rw [if_pos hv]
  unfold zsI
  rw [ar_6_12 h]
  show (if _ then _ else _) = _
  rw [if_neg (nI_in hx hl), nI_clamp (by omega)]
  rw [pv_up ho h (t' := uI t 6 i 12 (upd (rI t 6 i 12) x v)) ?_ (fun y hy => pcell_uI y hy)]
  unfold pcell rI
  show Sum.inl (_, _, par9 _ _ _ _) = _
  simp [uI, up3, par9, pty]
theorem ar_6_13 {e : pE} {t : pS} {i : Nat} (h : pIs e 6 i 13) : z_arr (pv e t) (some (pL e 6 i 13)) 0 = some (pL e 6 i 13, e.2.2.2 6 i 13, .inl (rI t 6 i 13)) := by
  unfold z_arr
  simp only [Option.bind_some, pv_at h]
  rfl
theorem al_6_13 {e : pE} {t : pS} {i : Nat} (h : pIs e 6 i 13) : zalen (pv e t) (some (pL e 6 i 13)) 0 = some (nI (e.2.2.2 6 i 13)) := by
  unfold zalen
  rw [ar_6_13 h]
  rfl
theorem ga_6_13 {e : pE} {t : pS} {i x : Nat} (h : pIs e 6 i 13) (hx : x < e.2.2.2 6 i 13) (hl : e.2.2.2 6 i 13 < 2 ^ 31) : zaI (pv e t) (some (pL e 6 i 13)) 0 (nI x) = some (rI t 6 i 13 x) := by
  unfold zaI
  rw [ar_6_13 h]
  show (if _ then _ else _) = _
  rw [if_neg (nI_in hx hl), nI_clamp (by omega)]
theorem sa_6_13 {e : pE} {t : pS} {i x : Nat} (ho : pOk e) (h : pIs e 6 i 13) (hx : x < e.2.2.2 6 i 13) (hl : e.2.2.2 6 i 13 < 2 ^ 31) (v : Int32) : zsI (pv e t) (some (pL e 6 i 13)) 0 (nI x) v = some (pv e (uI t 6 i 13 (upd (rI t 6 i 13) x v))) := by
  unfold zsI
  rw [ar_6_13 h]
  show (if _ then _ else _) = _
  rw [if_neg (nI_in hx hl), nI_clamp (by omega)]
  rw [pv_up ho h (t' := uI t 6 i 13 (upd (rI t 6 i 13) x v)) ?_ (fun y hy => pcell_uI y hy)]
  unfold pcell rI
  show Sum.inl (_, _, par9 _ _ _ _) = _
  simp [uI, up3, par9, pty]
theorem ar_6_14 {e : pE} {t : pS} {i : Nat} (h : pIs e 6 i 14) : z_arr (pv e t) (some (pL e 6 i 14)) 2 = some (pL e 6 i 14, e.2.2.2 6 i 14, .inl (rI t 6 i 14)) := by
  unfold z_arr
  simp only [Option.bind_some, pv_at h]
  rfl
theorem al_6_14 {e : pE} {t : pS} {i : Nat} (h : pIs e 6 i 14) : zalen (pv e t) (some (pL e 6 i 14)) 2 = some (nI (e.2.2.2 6 i 14)) := by
  unfold zalen
  rw [ar_6_14 h]
  rfl
theorem ga_6_14 {e : pE} {t : pS} {i x : Nat} (h : pIs e 6 i 14) (hx : x < e.2.2.2 6 i 14) (hl : e.2.2.2 6 i 14 < 2 ^ 31) : zaI (pv e t) (some (pL e 6 i 14)) 2 (nI x) = some (rI t 6 i 14 x) := by
  unfold zaI
  rw [ar_6_14 h]
  show (if _ then _ else _) = _
  rw [if_neg (nI_in hx hl), nI_clamp (by omega)]
theorem sa_6_14 {e : pE} {t : pS} {i x : Nat} (ho : pOk e) (h : pIs e 6 i 14) (hx : x < e.2.2.2 6 i 14) (hl : e.2.2.2 6 i 14 < 2 ^ 31) (v : Int32) (hv : v = 0 ∨ v = 1) : zsZ (pv e t) (some (pL e 6 i 14)) 2 (nI x) v = some (pv e (uI t 6 i 14 (upd (rI t 6 i 14) x v))) := by
  unfold zsZ
  rw [if_pos hv]
  unfold zsI
  rw [ar_6_14 h]
  show (if _ then _ else _) = _
  rw [if_neg (nI_in hx hl), nI_clamp (by omega)]
  rw [pv_up ho h (t' := uI t 6 i 14 (upd (rI t 6 i 14) x v)) ?_ (fun y hy => pcell_uI y hy)]
  unfold pcell rI
  show Sum.inl (_, _, par9 _ _ _ _) = _
  simp [uI, up3, par9, pty]
theorem ar_6_15 {e : pE} {t : pS} {i : Nat} (h : pIs e 6 i 15) : z_arr (pv e t) (some (pL e 6 i 15)) 0 = some (pL e 6 i 15, e.2.2.2 6 i 15, .inl (rI t 6 i 15)) := by
  unfold z_arr
  simp only [Option.bind_some, pv_at h]
  rfl
theorem al_6_15 {e : pE} {t : pS} {i : Nat} (h : pIs e 6 i 15) : zalen (pv e t) (some (pL e 6 i 15)) 0 = some (nI (e.2.2.2 6 i 15)) := by
  unfold zalen
  rw [ar_6_15 h]
  rfl
theorem ga_6_15 {e : pE} {t : pS} {i x : Nat} (h : pIs e 6 i 15) (hx : x < e.2.2.2 6 i 15) (hl : e.2.2.2 6 i 15 < 2 ^ 31) : zaI (pv e t) (some (pL e 6 i 15)) 0 (nI x) = some (rI t 6 i 15 x) := by
  unfold zaI
  rw [ar_6_15 h]
  show (if _ then _ else _) = _
  rw [if_neg (nI_in hx hl), nI_clamp (by omega)]
theorem sa_6_15 {e : pE} {t : pS} {i x : Nat} (ho : pOk e) (h : pIs e 6 i 15) (hx : x < e.2.2.2 6 i 15) (hl : e.2.2.2 6 i 15 < 2 ^ 31) (v : Int32) : zsI (pv e t) (some (pL e 6 i 15)) 0 (nI x) v = some (pv e (uI t 6 i 15 (upd (rI t 6 i 15) x v))) := by
  unfold zsI
  rw [ar_6_15 h]
  show (if _ then _ else _) = _
  rw [if_neg (nI_in hx hl), nI_clamp (by omega)]
  rw [pv_up ho h (t' := uI t 6 i 15 (upd (rI t 6 i 15) x v)) ?_ (fun y hy => pcell_uI y hy)]
  unfold pcell rI
  show Sum.inl (_, _, par9 _ _ _ _) = _
  simp [uI, up3, par9, pty]
theorem ar_6_16 {e : pE} {t : pS} {i : Nat} (h : pIs e 6 i 16) : z_arr (pv e t) (some (pL e 6 i 16)) 0 = some (pL e 6 i 16, e.2.2.2 6 i 16, .inl (rI t 6 i 16)) := by
  unfold z_arr
  simp only [Option.bind_some, pv_at h]
  rfl
theorem al_6_16 {e : pE} {t : pS} {i : Nat} (h : pIs e 6 i 16) : zalen (pv e t) (some (pL e 6 i 16)) 0 = some (nI (e.2.2.2 6 i 16)) := by
  unfold zalen
  rw [ar_6_16 h]
  rfl
theorem ga_6_16 {e : pE} {t : pS} {i x : Nat} (h : pIs e 6 i 16) (hx : x < e.2.2.2 6 i 16) (hl : e.2.2.2 6 i 16 < 2 ^ 31) : zaI (pv e t) (some (pL e 6 i 16)) 0 (nI x) = some (rI t 6 i 16 x) := by
  unfold zaI
  rw [ar_6_16 h]
  show (if _ then _ else _) = _
  rw [if_neg (nI_in hx hl), nI_clamp (by omega)]
theorem sa_6_16 {e : pE} {t : pS} {i x : Nat} (ho : pOk e) (h : pIs e 6 i 16) (hx : x < e.2.2.2 6 i 16) (hl : e.2.2.2 6 i 16 < 2 ^ 31) (v : Int32) : zsI (pv e t) (some (pL e 6 i 16)) 0 (nI x) v = some (pv e (uI t 6 i 16 (upd (rI t 6 i 16) x v))) := by
  unfold zsI
  rw [ar_6_16 h]
  show (if _ then _ else _) = _
  rw [if_neg (nI_in hx hl), nI_clamp (by omega)]
  rw [pv_up ho h (t' := uI t 6 i 16 (upd (rI t 6 i 16) x v)) ?_ (fun y hy => pcell_uI y hy)]
  unfold pcell rI
  show Sum.inl (_, _, par9 _ _ _ _) = _
  simp [uI, up3, par9, pty]
theorem ar_6_17 {e : pE} {t : pS} {i : Nat} (h : pIs e 6 i 17) : z_arr (pv e t) (some (pL e 6 i 17)) 0 = some (pL e 6 i 17, e.2.2.2 6 i 17, .inl (rI t 6 i 17)) := by
  unfold z_arr
  simp only [Option.bind_some, pv_at h]
  rfl
theorem al_6_17 {e : pE} {t : pS} {i : Nat} (h : pIs e 6 i 17) : zalen (pv e t) (some (pL e 6 i 17)) 0 = some (nI (e.2.2.2 6 i 17)) := by
  unfold zalen
  rw [ar_6_17 h]
  rfl
theorem ga_6_17 {e : pE} {t : pS} {i x : Nat} (h : pIs e 6 i 17) (hx : x < e.2.2.2 6 i 17) (hl : e.2.2.2 6 i 17 < 2 ^ 31) : zaI (pv e t) (some (pL e 6 i 17)) 0 (nI x) = some (rI t 6 i 17 x) := by
  unfold zaI
  rw [ar_6_17 h]
  show (if _ then _ else _) = _
  rw [if_neg (nI_in hx hl), nI_clamp (by omega)]
theorem sa_6_17 {e : pE} {t : pS} {i x : Nat} (ho : pOk e) (h : pIs e 6 i 17) (hx : x < e.2.2.2 6 i 17) (hl : e.2.2.2 6 i 17 < 2 ^ 31) (v : Int32) : zsI (pv e t) (some (pL e 6 i 17)) 0 (nI x) v = some (pv e (uI t 6 i 17 (upd (rI t 6 i 17) x v))) := by
  unfold zsI
  rw [ar_6_17 h]
  show (if _ then _ else _) = _
  rw [if_neg (nI_in hx hl), nI_clamp (by omega)]
  rw [pv_up ho h (t' := uI t 6 i 17 (upd (rI t 6 i 17) x v)) ?_ (fun y hy => pcell_uI y hy)]
  unfold pcell rI
  show Sum.inl (_, _, par9 _ _ _ _) = _
  simp [uI, up3, par9, pty]
theorem ar_6_18 {e : pE} {t : pS} {i : Nat} (h : pIs e 6 i 18) : z_arr (pv e t) (some (pL e 6 i 18)) 2 = some (pL e 6 i 18, e.2.2.2 6 i 18, .inl (rI t 6 i 18)) := by
  unfold z_arr
  simp only [Option.bind_some, pv_at h]
  rfl
theorem al_6_18 {e : pE} {t : pS} {i : Nat} (h : pIs e 6 i 18) : zalen (pv e t) (some (pL e 6 i 18)) 2 = some (nI (e.2.2.2 6 i 18)) := by
  unfold zalen
  rw [ar_6_18 h]
  rfl
theorem ga_6_18 {e : pE} {t : pS} {i x : Nat} (h : pIs e 6 i 18) (hx : x < e.2.2.2 6 i 18) (hl : e.2.2.2 6 i 18 < 2 ^ 31) : zaI (pv e t) (some (pL e 6 i 18)) 2 (nI x) = some (rI t 6 i 18 x) := by
  unfold zaI
  rw [ar_6_18 h]
  show (if _ then _ else _) = _
  rw [if_neg (nI_in hx hl), nI_clamp (by omega)]
theorem sa_6_18 {e : pE} {t : pS} {i x : Nat} (ho : pOk e) (h : pIs e 6 i 18) (hx : x < e.2.2.2 6 i 18) (hl : e.2.2.2 6 i 18 < 2 ^ 31) (v : Int32) (hv : v = 0 ∨ v = 1) : zsZ (pv e t) (some (pL e 6 i 18)) 2 (nI x) v = some (pv e (uI t 6 i 18 (upd (rI t 6 i 18) x v))) := by
  unfold zsZ
  rw [if_pos hv]
  unfold zsI
  rw [ar_6_18 h]
  show (if _ then _ else _) = _
  rw [if_neg (nI_in hx hl), nI_clamp (by omega)]
  rw [pv_up ho h (t' := uI t 6 i 18 (upd (rI t 6 i 18) x v)) ?_ (fun y hy => pcell_uI y hy)]
  unfold pcell rI
  show Sum.inl (_, _, par9 _ _ _ _) = _
  simp [uI, up3, par9, pty]
theorem ar_6_19 {e : pE} {t : pS} {i : Nat} (h : pIs e 6 i 19) : z_arr (pv e t) (some (pL e 6 i 19)) 2 = some (pL e 6 i 19, e.2.2.2 6 i 19, .inl (rI t 6 i 19)) := by
  unfold z_arr
  simp only [Option.bind_some, pv_at h]
  rfl
theorem al_6_19 {e : pE} {t : pS} {i : Nat} (h : pIs e 6 i 19) : zalen (pv e t) (some (pL e 6 i 19)) 2 = some (nI (e.2.2.2 6 i 19)) := by
  unfold zalen
  rw [ar_6_19 h]
  rfl
theorem ga_6_19 {e : pE} {t : pS} {i x : Nat} (h : pIs e 6 i 19) (hx : x < e.2.2.2 6 i 19) (hl : e.2.2.2 6 i 19 < 2 ^ 31) : zaI (pv e t) (some (pL e 6 i 19)) 2 (nI x) = some (rI t 6 i 19 x) := by
  unfold zaI
  rw [ar_6_19 h]
  show (if _ then _ else _) = _
  rw [if_neg (nI_in hx hl), nI_clamp (by omega)]
theorem sa_6_19 {e : pE} {t : pS} {i x : Nat} (ho : pOk e) (h : pIs e 6 i 19) (hx : x < e.2.2.2 6 i 19) (hl : e.2.2.2 6 i 19 < 2 ^ 31) (v : Int32) (hv : v = 0 ∨ v = 1) : zsZ (pv e t) (some (pL e 6 i 19)) 2 (nI x) v = some (pv e (uI t 6 i 19 (upd (rI t 6 i 19) x v))) := by
  unfold zsZ
  rw [if_pos hv]
  unfold zsI
  rw [ar_6_19 h]
  show (if _ then _ else _) = _
  rw [if_neg (nI_in hx hl), nI_clamp (by omega)]
  rw [pv_up ho h (t' := uI t 6 i 19 (upd (rI t 6 i 19) x v)) ?_ (fun y hy => pcell_uI y hy)]
  unfold pcell rI
  show Sum.inl (_, _, par9 _ _ _ _) = _
  simp [uI, up3, par9, pty]
theorem ar_6_20 {e : pE} {t : pS} {i : Nat} (h : pIs e 6 i 20) : z_arr (pv e t) (some (pL e 6 i 20)) 2 = some (pL e 6 i 20, e.2.2.2 6 i 20, .inl (rI t 6 i 20)) := by
  unfold z_arr
  simp only [Option.bind_some, pv_at h]
  rfl
theorem al_6_20 {e : pE} {t : pS} {i : Nat} (h : pIs e 6 i 20) : zalen (pv e t) (some (pL e 6 i 20)) 2 = some (nI (e.2.2.2 6 i 20)) := by
  unfold zalen
  rw [ar_6_20 h]
  rfl
theorem ga_6_20 {e : pE} {t : pS} {i x : Nat} (h : pIs e 6 i 20) (hx : x < e.2.2.2 6 i 20) (hl : e.2.2.2 6 i 20 < 2 ^ 31) : zaI (pv e t) (some (pL e 6 i 20)) 2 (nI x) = some (rI t 6 i 20 x) := by
  unfold zaI
  rw [ar_6_20 h]
  show (if _ then _ else _) = _
  rw [if_neg (nI_in hx hl), nI_clamp (by omega)]
theorem sa_6_20 {e : pE} {t : pS} {i x : Nat} (ho : pOk e) (h : pIs e 6 i 20) (hx : x < e.2.2.2 6 i 20) (hl : e.2.2.2 6 i 20 < 2 ^ 31) (v : Int32) (hv : v = 0 ∨ v = 1) : zsZ (pv e t) (some (pL e 6 i 20)) 2 (nI x) v = some (pv e (uI t 6 i 20 (upd (rI t 6 i 20) x v))) := by
  unfold zsZ
  rw [if_pos hv]
  unfold zsI
  rw [ar_6_20 h]
  show (if _ then _ else _) = _
  rw [if_neg (nI_in hx hl), nI_clamp (by omega)]
  rw [pv_up ho h (t' := uI t 6 i 20 (upd (rI t 6 i 20) x v)) ?_ (fun y hy => pcell_uI y hy)]
  unfold pcell rI
  show Sum.inl (_, _, par9 _ _ _ _) = _
  simp [uI, up3, par9, pty]
theorem ar_6_21 {e : pE} {t : pS} {i : Nat} (h : pIs e 6 i 21) : z_arr (pv e t) (some (pL e 6 i 21)) 1 = some (pL e 6 i 21, e.2.2.2 6 i 21, .inr (.inl (rJ t 6 i 21))) := by
  unfold z_arr
  simp only [Option.bind_some, pv_at h]
  rfl
theorem al_6_21 {e : pE} {t : pS} {i : Nat} (h : pIs e 6 i 21) : zalen (pv e t) (some (pL e 6 i 21)) 1 = some (nI (e.2.2.2 6 i 21)) := by
  unfold zalen
  rw [ar_6_21 h]
  rfl
theorem ga_6_21 {e : pE} {t : pS} {i x : Nat} (h : pIs e 6 i 21) (hx : x < e.2.2.2 6 i 21) (hl : e.2.2.2 6 i 21 < 2 ^ 31) : zaL (pv e t) (some (pL e 6 i 21)) 1 (nI x) = some (rJ t 6 i 21 x) := by
  unfold zaL
  rw [ar_6_21 h]
  show (if _ then _ else _) = _
  rw [if_neg (nI_in hx hl), nI_clamp (by omega)]
theorem sa_6_21 {e : pE} {t : pS} {i x : Nat} (ho : pOk e) (h : pIs e 6 i 21) (hx : x < e.2.2.2 6 i 21) (hl : e.2.2.2 6 i 21 < 2 ^ 31) (v : Int64) : zsL (pv e t) (some (pL e 6 i 21)) 1 (nI x) v = some (pv e (uJ t 6 i 21 (vp_updL (rJ t 6 i 21) x v))) := by
  unfold zsL
  rw [ar_6_21 h]
  show (if _ then _ else _) = _
  rw [if_neg (nI_in hx hl), nI_clamp (by omega)]
  rw [pv_up ho h (t' := uJ t 6 i 21 (vp_updL (rJ t 6 i 21) x v)) ?_ (fun y hy => pcell_uJ y hy)]
  unfold pcell rJ
  show Sum.inl (_, _, par9 _ _ _ _) = _
  simp [uJ, up3, par9, pty]
theorem ar_6_22 {e : pE} {t : pS} {i : Nat} (h : pIs e 6 i 22) : z_arr (pv e t) (some (pL e 6 i 22)) 0 = some (pL e 6 i 22, e.2.2.2 6 i 22, .inl (rI t 6 i 22)) := by
  unfold z_arr
  simp only [Option.bind_some, pv_at h]
  rfl
theorem al_6_22 {e : pE} {t : pS} {i : Nat} (h : pIs e 6 i 22) : zalen (pv e t) (some (pL e 6 i 22)) 0 = some (nI (e.2.2.2 6 i 22)) := by
  unfold zalen
  rw [ar_6_22 h]
  rfl
theorem ga_6_22 {e : pE} {t : pS} {i x : Nat} (h : pIs e 6 i 22) (hx : x < e.2.2.2 6 i 22) (hl : e.2.2.2 6 i 22 < 2 ^ 31) : zaI (pv e t) (some (pL e 6 i 22)) 0 (nI x) = some (rI t 6 i 22 x) := by
  unfold zaI
  rw [ar_6_22 h]
  show (if _ then _ else _) = _
  rw [if_neg (nI_in hx hl), nI_clamp (by omega)]
theorem sa_6_22 {e : pE} {t : pS} {i x : Nat} (ho : pOk e) (h : pIs e 6 i 22) (hx : x < e.2.2.2 6 i 22) (hl : e.2.2.2 6 i 22 < 2 ^ 31) (v : Int32) : zsI (pv e t) (some (pL e 6 i 22)) 0 (nI x) v = some (pv e (uI t 6 i 22 (upd (rI t 6 i 22) x v))) := by
  unfold zsI
  rw [ar_6_22 h]
  show (if _ then _ else _) = _
  rw [if_neg (nI_in hx hl), nI_clamp (by omega)]
  rw [pv_up ho h (t' := uI t 6 i 22 (upd (rI t 6 i 22) x v)) ?_ (fun y hy => pcell_uI y hy)]
  unfold pcell rI
  show Sum.inl (_, _, par9 _ _ _ _) = _
  simp [uI, up3, par9, pty]
theorem ar_6_23 {e : pE} {t : pS} {i : Nat} (h : pIs e 6 i 23) : z_arr (pv e t) (some (pL e 6 i 23)) 2 = some (pL e 6 i 23, e.2.2.2 6 i 23, .inl (rI t 6 i 23)) := by
  unfold z_arr
  simp only [Option.bind_some, pv_at h]
  rfl
theorem al_6_23 {e : pE} {t : pS} {i : Nat} (h : pIs e 6 i 23) : zalen (pv e t) (some (pL e 6 i 23)) 2 = some (nI (e.2.2.2 6 i 23)) := by
  unfold zalen
  rw [ar_6_23 h]
  rfl
theorem ga_6_23 {e : pE} {t : pS} {i x : Nat} (h : pIs e 6 i 23) (hx : x < e.2.2.2 6 i 23) (hl : e.2.2.2 6 i 23 < 2 ^ 31) : zaI (pv e t) (some (pL e 6 i 23)) 2 (nI x) = some (rI t 6 i 23 x) := by
  unfold zaI
  rw [ar_6_23 h]
  show (if _ then _ else _) = _
  rw [if_neg (nI_in hx hl), nI_clamp (by omega)]
theorem sa_6_23 {e : pE} {t : pS} {i x : Nat} (ho : pOk e) (h : pIs e 6 i 23) (hx : x < e.2.2.2 6 i 23) (hl : e.2.2.2 6 i 23 < 2 ^ 31) (v : Int32) (hv : v = 0 ∨ v = 1) : zsZ (pv e t) (some (pL e 6 i 23)) 2 (nI x) v = some (pv e (uI t 6 i 23 (upd (rI t 6 i 23) x v))) := by
  unfold zsZ
  rw [if_pos hv]
  unfold zsI
  rw [ar_6_23 h]
  show (if _ then _ else _) = _
  rw [if_neg (nI_in hx hl), nI_clamp (by omega)]
  rw [pv_up ho h (t' := uI t 6 i 23 (upd (rI t 6 i 23) x v)) ?_ (fun y hy => pcell_uI y hy)]
  unfold pcell rI
  show Sum.inl (_, _, par9 _ _ _ _) = _
  simp [uI, up3, par9, pty]
theorem ar_6_24 {e : pE} {t : pS} {i : Nat} (h : pIs e 6 i 24) : z_arr (pv e t) (some (pL e 6 i 24)) 2 = some (pL e 6 i 24, e.2.2.2 6 i 24, .inl (rI t 6 i 24)) := by
  unfold z_arr
  simp only [Option.bind_some, pv_at h]
  rfl
theorem al_6_24 {e : pE} {t : pS} {i : Nat} (h : pIs e 6 i 24) : zalen (pv e t) (some (pL e 6 i 24)) 2 = some (nI (e.2.2.2 6 i 24)) := by
  unfold zalen
  rw [ar_6_24 h]
  rfl
theorem ga_6_24 {e : pE} {t : pS} {i x : Nat} (h : pIs e 6 i 24) (hx : x < e.2.2.2 6 i 24) (hl : e.2.2.2 6 i 24 < 2 ^ 31) : zaI (pv e t) (some (pL e 6 i 24)) 2 (nI x) = some (rI t 6 i 24 x) := by
  unfold zaI
  rw [ar_6_24 h]
  show (if _ then _ else _) = _
  rw [if_neg (nI_in hx hl), nI_clamp (by omega)]
theorem sa_6_24 {e : pE} {t : pS} {i x : Nat} (ho : pOk e) (h : pIs e 6 i 24) (hx : x < e.2.2.2 6 i 24) (hl : e.2.2.2 6 i 24 < 2 ^ 31) (v : Int32) (hv : v = 0 ∨ v = 1) : zsZ (pv e t) (some (pL e 6 i 24)) 2 (nI x) v = some (pv e (uI t 6 i 24 (upd (rI t 6 i 24) x v))) := by
  unfold zsZ
  rw [if_pos hv]
  unfold zsI
  rw [ar_6_24 h]
  show (if _ then _ else _) = _
  rw [if_neg (nI_in hx hl), nI_clamp (by omega)]
  rw [pv_up ho h (t' := uI t 6 i 24 (upd (rI t 6 i 24) x v)) ?_ (fun y hy => pcell_uI y hy)]
  unfold pcell rI
  show Sum.inl (_, _, par9 _ _ _ _) = _
  simp [uI, up3, par9, pty]
theorem ar_6_25 {e : pE} {t : pS} {i : Nat} (h : pIs e 6 i 25) : z_arr (pv e t) (some (pL e 6 i 25)) 0 = some (pL e 6 i 25, e.2.2.2 6 i 25, .inl (rI t 6 i 25)) := by
  unfold z_arr
  simp only [Option.bind_some, pv_at h]
  rfl
theorem al_6_25 {e : pE} {t : pS} {i : Nat} (h : pIs e 6 i 25) : zalen (pv e t) (some (pL e 6 i 25)) 0 = some (nI (e.2.2.2 6 i 25)) := by
  unfold zalen
  rw [ar_6_25 h]
  rfl
theorem ga_6_25 {e : pE} {t : pS} {i x : Nat} (h : pIs e 6 i 25) (hx : x < e.2.2.2 6 i 25) (hl : e.2.2.2 6 i 25 < 2 ^ 31) : zaI (pv e t) (some (pL e 6 i 25)) 0 (nI x) = some (rI t 6 i 25 x) := by
  unfold zaI
  rw [ar_6_25 h]
  show (if _ then _ else _) = _
  rw [if_neg (nI_in hx hl), nI_clamp (by omega)]
theorem sa_6_25 {e : pE} {t : pS} {i x : Nat} (ho : pOk e) (h : pIs e 6 i 25) (hx : x < e.2.2.2 6 i 25) (hl : e.2.2.2 6 i 25 < 2 ^ 31) (v : Int32) : zsI (pv e t) (some (pL e 6 i 25)) 0 (nI x) v = some (pv e (uI t 6 i 25 (upd (rI t 6 i 25) x v))) := by
  unfold zsI
  rw [ar_6_25 h]
  show (if _ then _ else _) = _
  rw [if_neg (nI_in hx hl), nI_clamp (by omega)]
  rw [pv_up ho h (t' := uI t 6 i 25 (upd (rI t 6 i 25) x v)) ?_ (fun y hy => pcell_uI y hy)]
  unfold pcell rI
  show Sum.inl (_, _, par9 _ _ _ _) = _
  simp [uI, up3, par9, pty]
theorem ar_6_26 {e : pE} {t : pS} {i : Nat} (h : pIs e 6 i 26) : z_arr (pv e t) (some (pL e 6 i 26)) 0 = some (pL e 6 i 26, e.2.2.2 6 i 26, .inl (rI t 6 i 26)) := by
  unfold z_arr
  simp only [Option.bind_some, pv_at h]
  rfl
theorem al_6_26 {e : pE} {t : pS} {i : Nat} (h : pIs e 6 i 26) : zalen (pv e t) (some (pL e 6 i 26)) 0 = some (nI (e.2.2.2 6 i 26)) := by
  unfold zalen
  rw [ar_6_26 h]
  rfl
theorem ga_6_26 {e : pE} {t : pS} {i x : Nat} (h : pIs e 6 i 26) (hx : x < e.2.2.2 6 i 26) (hl : e.2.2.2 6 i 26 < 2 ^ 31) : zaI (pv e t) (some (pL e 6 i 26)) 0 (nI x) = some (rI t 6 i 26 x) := by
  unfold zaI
  rw [ar_6_26 h]
  show (if _ then _ else _) = _
  rw [if_neg (nI_in hx hl), nI_clamp (by omega)]
theorem sa_6_26 {e : pE} {t : pS} {i x : Nat} (ho : pOk e) (h : pIs e 6 i 26) (hx : x < e.2.2.2 6 i 26) (hl : e.2.2.2 6 i 26 < 2 ^ 31) (v : Int32) : zsI (pv e t) (some (pL e 6 i 26)) 0 (nI x) v = some (pv e (uI t 6 i 26 (upd (rI t 6 i 26) x v))) := by
  unfold zsI
  rw [ar_6_26 h]
  show (if _ then _ else _) = _
  rw [if_neg (nI_in hx hl), nI_clamp (by omega)]
  rw [pv_up ho h (t' := uI t 6 i 26 (upd (rI t 6 i 26) x v)) ?_ (fun y hy => pcell_uI y hy)]
  unfold pcell rI
  show Sum.inl (_, _, par9 _ _ _ _) = _
  simp [uI, up3, par9, pty]
theorem ar_6_27 {e : pE} {t : pS} {i : Nat} (h : pIs e 6 i 27) : z_arr (pv e t) (some (pL e 6 i 27)) 1 = some (pL e 6 i 27, e.2.2.2 6 i 27, .inr (.inl (rJ t 6 i 27))) := by
  unfold z_arr
  simp only [Option.bind_some, pv_at h]
  rfl
theorem al_6_27 {e : pE} {t : pS} {i : Nat} (h : pIs e 6 i 27) : zalen (pv e t) (some (pL e 6 i 27)) 1 = some (nI (e.2.2.2 6 i 27)) := by
  unfold zalen
  rw [ar_6_27 h]
  rfl
theorem ga_6_27 {e : pE} {t : pS} {i x : Nat} (h : pIs e 6 i 27) (hx : x < e.2.2.2 6 i 27) (hl : e.2.2.2 6 i 27 < 2 ^ 31) : zaL (pv e t) (some (pL e 6 i 27)) 1 (nI x) = some (rJ t 6 i 27 x) := by
  unfold zaL
  rw [ar_6_27 h]
  show (if _ then _ else _) = _
  rw [if_neg (nI_in hx hl), nI_clamp (by omega)]
theorem sa_6_27 {e : pE} {t : pS} {i x : Nat} (ho : pOk e) (h : pIs e 6 i 27) (hx : x < e.2.2.2 6 i 27) (hl : e.2.2.2 6 i 27 < 2 ^ 31) (v : Int64) : zsL (pv e t) (some (pL e 6 i 27)) 1 (nI x) v = some (pv e (uJ t 6 i 27 (vp_updL (rJ t 6 i 27) x v))) := by
  unfold zsL
  rw [ar_6_27 h]
  show (if _ then _ else _) = _
  rw [if_neg (nI_in hx hl), nI_clamp (by omega)]
  rw [pv_up ho h (t' := uJ t 6 i 27 (vp_updL (rJ t 6 i 27) x v)) ?_ (fun y hy => pcell_uJ y hy)]
  unfold pcell rJ
  show Sum.inl (_, _, par9 _ _ _ _) = _
  simp [uJ, up3, par9, pty]
theorem ar_6_28 {e : pE} {t : pS} {i : Nat} (h : pIs e 6 i 28) : z_arr (pv e t) (some (pL e 6 i 28)) 1 = some (pL e 6 i 28, e.2.2.2 6 i 28, .inr (.inl (rJ t 6 i 28))) := by
  unfold z_arr
  simp only [Option.bind_some, pv_at h]
  rfl
theorem al_6_28 {e : pE} {t : pS} {i : Nat} (h : pIs e 6 i 28) : zalen (pv e t) (some (pL e 6 i 28)) 1 = some (nI (e.2.2.2 6 i 28)) := by
  unfold zalen
  rw [ar_6_28 h]
  rfl
theorem ga_6_28 {e : pE} {t : pS} {i x : Nat} (h : pIs e 6 i 28) (hx : x < e.2.2.2 6 i 28) (hl : e.2.2.2 6 i 28 < 2 ^ 31) : zaL (pv e t) (some (pL e 6 i 28)) 1 (nI x) = some (rJ t 6 i 28 x) := by
  unfold zaL
  rw [ar_6_28 h]
  show (if _ then _ else _) = _
  rw [if_neg (nI_in hx hl), nI_clamp (by omega)]
theorem sa_6_28 {e : pE} {t : pS} {i x : Nat} (ho : pOk e) (h : pIs e 6 i 28) (hx : x < e.2.2.2 6 i 28) (hl : e.2.2.2 6 i 28 < 2 ^ 31) (v : Int64) : zsL (pv e t) (some (pL e 6 i 28)) 1 (nI x) v = some (pv e (uJ t 6 i 28 (vp_updL (rJ t 6 i 28) x v))) := by
  unfold zsL
  rw [ar_6_28 h]
  show (if _ then _ else _) = _
  rw [if_neg (nI_in hx hl), nI_clamp (by omega)]
  rw [pv_up ho h (t' := uJ t 6 i 28 (vp_updL (rJ t 6 i 28) x v)) ?_ (fun y hy => pcell_uJ y hy)]
  unfold pcell rJ
  show Sum.inl (_, _, par9 _ _ _ _) = _
  simp [uJ, up3, par9, pty]
