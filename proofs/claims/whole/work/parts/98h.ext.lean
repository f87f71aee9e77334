/-! NEW OBJECTS: cells made one behind the other, and their names -/
def mkm (V : zV) (a : Nat) (l : List zE) : zV := fun b => if a ≤ b ∧ b < a + l.length then l[b - a]? else V b
theorem mkm_new (V : zV) (a : Nat) (o : zE) : z_up V a o = mkm V a [o] := by
  funext b
  unfold z_up mkm
  by_cases q : b = a
  · rw [if_pos q, if_pos (by simp; omega), q, Nat.sub_self]; rfl
  · rw [if_neg q, if_neg (by simp; omega)]
theorem mkm_snoc (V : zV) (a : Nat) (l : List zE) (c : zE) : z_up (mkm V a l) (a + l.length) c = mkm V a (l ++ [c]) := by
  funext b
  unfold z_up mkm
  rw [List.length_append, List.length_singleton]
  by_cases q : b = a + l.length
  · rw [if_pos q, if_pos (by omega), q, Nat.add_sub_cancel_left, List.getElem?_append_right (Nat.le_refl _), Nat.sub_self]
    rfl
  · rw [if_neg q]
    by_cases r : a ≤ b ∧ b < a + l.length
    · rw [if_pos r, if_pos (by omega), List.getElem?_append_left (by omega)]
    · rw [if_neg r, if_neg (by omega)]
theorem mkm_obj (V : zV) (a : Nat) (o o' : zE) (l : List zE) : z_up (mkm V a (o :: l)) a o' = mkm V a (o' :: l) := by
  funext b
  unfold z_up mkm
  rw [List.length_cons, List.length_cons]
  by_cases q : b = a
  · rw [if_pos q, if_pos (by omega), q, Nat.sub_self]; rfl
  · rw [if_neg q]
    by_cases r : a ≤ b ∧ b < a + (l.length + 1)
    · rw [if_pos r, if_pos r]
      obtain ⟨j, hj⟩ : ∃ j, b - a = j + 1 := ⟨b - a - 1, by omega⟩
      rw [hj, List.getElem?_cons_succ, List.getElem?_cons_succ]
    · rw [if_neg r, if_neg r]
theorem mkm_get (V : zV) (a : Nat) (o : zE) (l : List zE) : mkm V a (o :: l) a = some o := by
  unfold mkm
  rw [if_pos (by rw [List.length_cons]; omega), Nat.sub_self]
  rfl
theorem mkm_out (V : zV) {a b : Nat} (l : List zE) (h : b < a) : mkm V a l b = V b := by
  unfold mkm
  rw [if_neg (by omega)]
theorem mk_obj {V : zV} {a ci : Nat} {fs : List Value} {l : List zE} {cs : List Nat} (h : cs.contains ci = true) : z_obj (mkm V a (.inr (ci, fs) :: l)) (some a) cs = some (a, ci, fs) := by
  unfold z_obj
  simp only [Option.bind_some, mkm_get, h, if_true]
theorem mk_p {V : zV} {a ci k : Nat} {fs : List Value} {l : List zE} {cs : List Nat} {v : Value} (h : cs.contains ci = true) (hk : k < fs.length) : zpf (mkm V a (.inr (ci, fs) :: l)) (some a) cs k v = some (mkm V a (.inr (ci, fs.set k v) :: l)) := by
  unfold zpf
  rw [mk_obj h, Option.bind_some, if_pos hk, mkm_obj]
theorem mk_a {V : zV} {a n N t B : Nat} {l : List zE} {u : (Nat → Int32) ⊕ (Nat → Int64) ⊕ (Nat → UInt32) ⊕ (Nat → UInt64) ⊕ (Nat → Option Nat)} {K : Nat → zV → Nat → Option zR} (hn : n = a + l.length) (hN : N ≤ B) (hN2 : N < 2 ^ 31) : znwa (mkm V a l) n t B (nI N) u K = K n (mkm V a (l ++ [.inl (t, N, u)])) (n + 1) := by
  unfold znwa
  rw [nI_clamp hN2, if_neg (by
    rintro (q | q)
    · exact nI_nn hN2 q
    · omega), hn, mkm_snoc]
/-- the object (k, i) gets the addresses from n on -/
def extE (e : pE) (k i n : Nat) (L : List Nat) : pE := (e.1, fun x => if x.1 = k ∧ x.2.1 = i ∧ x.2.2 < L.length then n + x.2.2 else e.2.1 x, fun a => if n ≤ a ∧ a < n + L.length then some (k, i, a - n) else e.2.2.1 a, fun k' i' s => if k' = k ∧ i' = i then L.getD s 0 else e.2.2.2 k' i' s)
/-- all named addresses are below n -/
def FE (e : pE) (n : Nat) : Prop := ∀ a x, e.2.2.1 a = some x → a < n
/-- the object (k, i) has no name -/
def NE (e : pE) (k i : Nat) : Prop := ∀ a x, e.2.2.1 a = some x → ¬ (x.1 = k ∧ x.2.1 = i)
/-- kinds are at most 6 -/
def KE (e : pE) : Prop := ∀ a x, e.2.2.1 a = some x → x.1 ≤ 6
section PE
variable {e : pE} {t t' : pS} {k i n : Nat} {L : List Nat}
theorem ext_L {k' i' : Nat} (h : ¬ (k' = k ∧ i' = i)) (s : Nat) : pL (extE e k i n L) k' i' s = pL e k' i' s := if_neg (fun q => h ⟨q.1, q.2.1⟩)
theorem ext_Ln {s : Nat} (hs : s < L.length) : pL (extE e k i n L) k i s = n + s := if_pos ⟨rfl, rfl, hs⟩
theorem ext_nam (a : Nat) : (extE e k i n L).2.2.1 a = if n ≤ a ∧ a < n + L.length then some (k, i, a - n) else e.2.2.1 a := rfl
theorem ext_is {s : Nat} (hs : s < L.length) : pIs (extE e k i n L) k i s := by
  unfold pIs
  rw [ext_Ln hs, ext_nam, if_pos (by omega), Nat.add_sub_cancel_left]
theorem ext_ok (ho : pOk e) (hf : FE e n) (hn : NE e k i) : pOk (extE e k i n L) := by
  intro a x h
  rw [ext_nam] at h
  show a = if x.1 = k ∧ x.2.1 = i ∧ x.2.2 < L.length then n + x.2.2 else e.2.1 x
  by_cases q : n ≤ a ∧ a < n + L.length
  · rw [if_pos q] at h
    cases h
    rw [if_pos ⟨rfl, rfl, by show a - n < L.length; omega⟩]
    show a = n + (a - n)
    omega
  · rw [if_neg q] at h
    rw [if_neg (fun z => hn a x h ⟨z.1, z.2.1⟩)]
    exact ho a x h
theorem ext_old {k' i' s : Nat} (hf : FE e n) (h : ¬ (k' = k ∧ i' = i)) (p : pIs e k' i' s) : pIs (extE e k i n L) k' i' s := by
  have hlt := hf _ _ p
  unfold pIs
  rw [ext_L h, ext_nam, if_neg (by omega)]
  exact p
theorem ext_oK (ho : pOk e) (hf : FE e n) (hn : NE e k i) : oK (extE e k i n L) k i L := ⟨ext_ok ho hf hn, fun s hs => ext_is hs, fun s _ => if_pos ⟨rfl, rfl⟩⟩
theorem ext_oKo {k' i' : Nat} {L' : List Nat} (hf : FE e n) (hn : NE e k i) (h : ¬ (k' = k ∧ i' = i)) (o : oK e k' i' L') : oK (extE e k i n L) k' i' L' := ⟨ext_ok o.1 hf hn, fun s hs => ext_old hf h (o.2.1 s hs), fun s hs => by
  show (if k' = k ∧ i' = i then L.getD s 0 else e.2.2.2 k' i' s) = _
  rw [if_neg h]
  exact o.2.2 s hs⟩
theorem ext_FE (hf : FE e n) : FE (extE e k i n L) (n + L.length) := by
  intro a x h
  rw [ext_nam] at h
  by_cases q : n ≤ a ∧ a < n + L.length
  · exact q.2
  · rw [if_neg q] at h
    have := hf a x h
    omega
theorem ext_KE (h : KE e) (hk : k ≤ 6) : KE (extE e k i n L) := by
  intro a x hx
  rw [ext_nam] at hx
  by_cases q : n ≤ a ∧ a < n + L.length
  · rw [if_pos q] at hx
    cases hx
    exact hk
  · rw [if_neg q] at hx
    exact h a x hx
theorem ext_NE {k' i' : Nat} (h : NE e k' i') (hne : ¬ (k' = k ∧ i' = i)) : NE (extE e k i n L) k' i' := by
  intro a x hx
  rw [ext_nam] at hx
  by_cases q : n ≤ a ∧ a < n + L.length
  · rw [if_pos q] at hx
    cases hx
    exact fun z => hne ⟨z.1.symm, z.2.symm⟩
  · rw [if_neg q] at hx
    exact h a x hx
theorem ext_pfl {k' i' : Nat} (hk : k' ≤ 6) (h : ¬ (k' = k ∧ i' = i)) (h1 : ¬ (1 = k ∧ 0 = i)) (g : Nat → Int32) (j : Nat → Int64) : pfl (extE e k i n L) k' i' g j = pfl e k' i' g j := by
  have h7 : k' = 0 ∨ k' = 1 ∨ k' = 2 ∨ k' = 3 ∨ k' = 4 ∨ k' = 5 ∨ k' = 6 := by omega
  rcases h7 with rfl | rfl | rfl | rfl | rfl | rfl | rfl <;> simp only [pfl, ext_L h, ext_L h1]
theorem ext_pv (hf : FE e n) (hn : NE e k i) (h6 : KE e) (h1 : ¬ (1 = k ∧ 0 = i)) (hs : ∀ k' i', ¬ (k' = k ∧ i' = i) → same t t' k' i') {l : List zE} (hl : l.length = L.length) (hc : ∀ s, s < L.length → l[s]? = some (pcell (extE e k i n L) t' (k, i, s))) : mkm (pv e t) n l = pv (extE e k i n L) t' := by
  funext b
  unfold mkm
  by_cases q : n ≤ b ∧ b < n + L.length
  · rw [if_pos (by rw [hl]; exact q), hc _ (by omega)]
    unfold pv
    rw [ext_nam, if_pos q]
  · rw [if_neg (by rw [hl]; exact q)]
    unfold pv
    rw [ext_nam, if_neg q]
    cases hx : e.2.2.1 b with
    | none => rfl
    | some x =>
      obtain ⟨k', i', s'⟩ := x
      have hne : ¬ (k' = k ∧ i' = i) := hn b _ hx
      obtain ⟨s1, s2, s3, s4, s5⟩ := hs k' i' hne
      show some (pcell e t (k', i', s')) = some (pcell (extE e k i n L) t' (k', i', s'))
      unfold pcell
      dsimp only
      rw [s1, s2, s3, s4, s5, ext_pfl (h6 b _ hx) hne h1]
      show _ = some (if s' = 0 then _ else Sum.inl (_, (if k' = k ∧ i' = i then L.getD s' 0 else e.2.2.2 k' i' s'), _))
      rw [if_neg hne]
end PE
