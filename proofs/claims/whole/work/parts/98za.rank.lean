/-! what a task reaches is closed after as many rounds as there are tasks -/
section PI
variable {s : zSt}
def Clo (s : zSt) (F : Nat → Bool) : Prop := ∀ c k, c < s_C s → s_fr s c = some k → F k = true → F (s_to s c) = true
def cnt (s : zSt) (F : Nat → Bool) : Nat := ((List.range (s_N s)).filter F).length
theorem rC_mono (F : Nat → Bool) (c : Nat) {x : Nat} (h : F x = true) : rC s F c x = true := by
  cases hf : s_fr s c with
  | none =>
    have e1 : rC s F c = F := by unfold rC; rw [hf]
    rw [e1]; exact h
  | some k =>
    have e1 : rC s F c = if F k = true then fu F (s_to s c) true else F := by unfold rC; rw [hf]
    rw [e1]
    by_cases q : F k = true
    · rw [if_pos q]
      show (if x = s_to s c then true else F x) = true
      split
      · rfl
      · exact h
    · rw [if_neg q]; exact h
theorem rF_mono (l : List Nat) : ∀ (F : Nat → Bool) {x : Nat}, F x = true → l.foldl (rC s) F x = true := by
  induction l with
  | nil => intro F x h; exact h
  | cons c l ih => intro F x h; exact ih _ (rC_mono F c h)
theorem rC_clo {F : Nat → Bool} (h : Clo s F) {c : Nat} (hc : c < s_C s) : rC s F c = F := by
  cases hf : s_fr s c with
  | none => unfold rC; rw [hf]
  | some k =>
    have e1 : rC s F c = if F k = true then fu F (s_to s c) true else F := by unfold rC; rw [hf]
    rw [e1]
    by_cases hF : F k = true
    · rw [if_pos hF]
      funext x
      show (if x = s_to s c then true else F x) = F x
      by_cases q : x = s_to s c
      · rw [if_pos q, q]; exact (h c k hc hf hF).symm
      · rw [if_neg q]
    · rw [if_neg hF]
theorem rF_clo {F : Nat → Bool} (h : Clo s F) : ∀ (l : List Nat), (∀ c ∈ l, c < s_C s) → l.foldl (rC s) F = F := by
  intro l
  induction l with
  | nil => intro _; rfl
  | cons c l ih =>
    intro hl
    rw [List.foldl_cons, rC_clo h (hl c List.mem_cons_self)]
    exact ih (fun j hj => hl j (List.mem_cons_of_mem _ hj))
theorem rng_lt {C : Nat} : ∀ c ∈ List.range' 0 C, c < C := fun c hc => by
  have := List.mem_range'_1.mp hc
  omega
theorem rIt_clo {F : Nat → Bool} (h : Clo s F) (d : Nat) : rIt s d F = F := by
  induction d with
  | zero => rfl
  | succ d ih =>
    show rIt s d ((List.range' 0 (s_C s)).foldl (rC s) F) = F
    rw [rF_clo h _ rng_lt]
    exact ih
theorem rF_hit {c k : Nat} (hk : s_fr s c = some k) : ∀ (l : List Nat) (F : Nat → Bool), c ∈ l → F k = true → l.foldl (rC s) F (s_to s c) = true := by
  intro l
  induction l with
  | nil => intro F hc; cases hc
  | cons j l ih =>
    intro F hc hF
    rw [List.foldl_cons]
    rcases List.mem_cons.mp hc with rfl | hc
    · refine rF_mono l _ ?_
      have e1 : rC s F c = fu F (s_to s c) true := by
        unfold rC
        rw [hk]
        exact if_pos hF
      rw [e1, fu_self]
    · exact ih _ hc (rC_mono F j hF)
theorem cnt_lt {F G : Nat → Bool} (h : ∀ x, F x = true → G x = true) {y : Nat} (hy : y < s_N s) (h1 : F y = false) (h2 : G y = true) : cnt s F + 1 ≤ cnt s G := by
  unfold cnt
  have e1 : (List.range (s_N s)).filter F = ((List.range (s_N s)).filter G).filter F := by
    rw [List.filter_filter]
    refine List.filter_congr fun x _ => ?_
    cases hx : F x with
    | false => simp
    | true => rw [h x hx]; rfl
  rw [e1]
  exact List.length_filter_lt_length_iff_exists.mpr ⟨y, List.mem_filter.mpr ⟨List.mem_range.mpr hy, h2⟩, by rw [h1]; decide⟩
theorem rIt_or (w : Wf s) : ∀ (d : Nat) (F : Nat → Bool), Clo s (rIt s d F) ∨ cnt s F + d ≤ cnt s (rIt s d F) := by
  intro d
  induction d with
  | zero => intro F; exact Or.inr (Nat.le_refl _)
  | succ d ih =>
    intro F
    by_cases q : Clo s F
    · rw [rIt_clo q]; exact Or.inl q
    · have hex : ∃ c k, c < s_C s ∧ s_fr s c = some k ∧ F k = true ∧ F (s_to s c) = false := by
        refine Classical.byContradiction fun z => q fun c k hc hk hF => ?_
        cases hx : F (s_to s c) with
        | true => rfl
        | false => exact absurd ⟨c, k, hc, hk, hF, hx⟩ z
      obtain ⟨c, k, hc, hk, hF, hx⟩ := hex
      have h1 := cnt_lt (s := s) (G := (List.range' 0 (s_C s)).foldl (rC s) F) (fun x hx => rF_mono _ F hx) (w.to hc) hx (rF_hit hk _ F (List.mem_range'_1.mpr (by omega)) hF)
      rcases ih ((List.range' 0 (s_C s)).foldl (rC s) F) with h2 | h2
      · exact Or.inl h2
      · exact Or.inr (by show cnt s F + (d + 1) ≤ cnt s (rIt s d ((List.range' 0 (s_C s)).foldl (rC s) F)); omega)
theorem reach_clo (w : Wf s) {b : Nat} (hb : b < s_N s) : Clo s (reachS s b) := by
  rcases rIt_or w (s_N s) (fu (fun _ => false) b true) with h | h
  · exact h
  · have h1 : cnt s (rIt s (s_N s) (fu (fun _ => false) b true)) ≤ s_N s := by
      unfold cnt
      refine Nat.le_trans (List.length_filter_le _ _) ?_
      rw [List.length_range]
      exact Nat.le_refl _
    have h2 : 1 ≤ cnt s (fu (fun _ => false) b true) := by
      unfold cnt
      refine List.length_pos_of_mem (a := b) (List.mem_filter.mpr ⟨List.mem_range.mpr hb, ?_⟩)
      rw [fu_self]
    omega
theorem reach_self (s : zSt) (b : Nat) : reachS s b b = true := by
  have : ∀ d F, F b = true → rIt s d F b = true := by
    intro d
    induction d with
    | zero => intro F h; exact h
    | succ d ih => intro F h; exact ih _ (rF_mono _ F h)
  exact this _ _ (fu_self _ _ _)
/-- a rank for the tasks once the channel has been added -/
theorem rank_new (w : Wf s) (h : IvR s) {a b : Nat} (hb : b < s_N s) (hr : reachS s b a = false) : ∃ r : Nat → Nat, r a < r b ∧ ∀ c k, c < s_C s → s_fr s c = some k → r k < r (s_to s c) := by
  obtain ⟨r, hr0⟩ := h
  refine ⟨fun x => if reachS s b x = true then r x + (r a + 1) else r x, ?_, fun c k hc hk => ?_⟩
  · show (if reachS s b a = true then r a + (r a + 1) else r a) < (if reachS s b b = true then r b + (r a + 1) else r b)
    rw [if_neg (by rw [hr]; decide), if_pos (reach_self s b)]
    omega
  · have h1 := hr0 c k hc hk
    show (if reachS s b k = true then r k + (r a + 1) else r k) < (if reachS s b (s_to s c) = true then r (s_to s c) + (r a + 1) else r (s_to s c))
    by_cases q : reachS s b k = true
    · rw [if_pos q, if_pos (reach_clo w hb c k hc hk q)]; omega
    · rw [if_neg q]
      split <;> omega
end PI
