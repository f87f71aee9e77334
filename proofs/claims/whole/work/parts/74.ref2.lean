/-! loops by a counter; the reference's reading methods -/
def itN {α : Type} (g : Nat → α → α) : Nat → Nat → α → α
  | _, 0, a => a
  | c, d + 1, a => itN g (c + 1) d (g c a)
theorem loopN {α β : Type} {L : Nat → α → Int32 → β} {C : Nat} (step : Nat → α → α) (Inv : Nat → α → Prop) (K : α → β) (hs : ∀ f c a, c < C → Inv c a → L (f + 1) a (nI c) = L f (step c a) (nI (c + 1)) ∧ Inv (c + 1) (step c a)) (he : ∀ f a, Inv C a → L (f + 1) a (nI C) = K a) : ∀ d c f a, c + d = C → d < f → Inv c a → L f a (nI c) = K (itN step c d a) ∧ Inv C (itN step c d a) := by
  intro d
  induction d with
  | zero =>
    intro c f a hc hf hi
    obtain ⟨g, rfl⟩ : ∃ g, f = g + 1 := ⟨f - 1, by omega⟩
    obtain rfl : c = C := by omega
    exact ⟨he g a hi, hi⟩
  | succ d ih =>
    intro c f a hc hf hi
    obtain ⟨g, rfl⟩ : ∃ g, f = g + 1 := ⟨f - 1, by omega⟩
    obtain ⟨h1, h2⟩ := hs g c a (by omega) hi
    rw [h1]
    exact ih (c + 1) g _ (by omega) (by omega) h2
section PM
variable {e : pE} {t : pS} {s : zSt} {n : Nat}
theorem zF_big {k : Nat} (h : k ≤ 100000) : k < zF := by unfold zF; omega
theorem any_ins (s : zSt) (x : Nat) : ((List.range' 0 (s_C s)).any fun c => s_to s c == x) = hasIn s x := by
  unfold hasIn ins
  rw [← List.range_eq_range']
  cases h : (List.range (s_C s)).any fun c => s_to s c == x with
  | true =>
    obtain ⟨c, hc, hq⟩ := List.any_eq_true.mp h
    have : c ∈ (List.range (s_C s)).filter fun c => s_to s c == x := List.mem_filter.mpr ⟨hc, hq⟩
    cases hl : (List.range (s_C s)).filter fun c => s_to s c == x with
    | nil => rw [hl] at this; cases this
    | cons a l => rfl
  | false =>
    have : (List.range (s_C s)).filter (fun c => s_to s c == x) = [] := List.filter_eq_nil_iff.mpr fun c hc hq => by
      have h9 : ((List.range (s_C s)).any fun c => s_to s c == x) = true := List.any_eq_true.mpr ⟨c, hc, hq⟩
      rw [h] at h9; cases h9
    rw [this]; rfl
theorem fR_hasInto_eq (h : pRf e) (M : Mod t s) (w : Wf s) {x : Nat} (hx : x < 8) : fR_hasInto (pv e t) n (pL e 6 0 0) (nI x) = some (.inl (some (.int (b2i (hasIn s x)))), pv e t, n) := by
  unfold fR_hasInto
  have := fR_hasInto_4_eq (n := n) h M w hx (s_C s) 0 false zF (by omega) (zF_big (by have := w.2.1; omega))
  rw [any_ins] at this
  exact this
theorem fR_isSource_eq (h : pRf e) (M : Mod t s) (w : Wf s) {c : Nat} (hc : c < s_C s) : fR_isSource (pv e t) n (pL e 6 0 0) (nI c) = some (.inl (some (.int (b2i (s_fr s c).isNone))), pv e t, n) := by
  have hC := w.2.1
  have hl5 : e.2.2.2 6 0 5 = 16 := h.len (by omega)
  have hfr := ((M.2.2.1 c (by omega)).1 hc).1
  unfold fR_isSource
  rw [gf_6_8 (h.is (by omega))]
  simp only [Option.bind_some]
  rw [ga_6_5 (h.is (by omega)) (by omega) (by omega), hfr]
  simp only [Option.bind_some]
  cases hk : s_fr s c with
  | none => rfl
  | some k =>
    have hkN := (w.2.2.2.1 c hc).2 k hk
    have hN := w.1.2
    rw [if_neg]
    · rfl
    · intro q
      have e1 : (nI k).toInt = (k : Int) := nI_toInt (by omega)
      have e2 : nI k = -1 := q
      rw [e2] at e1
      have : ((-1 : Int32)).toInt = -1 := by decide
      omega
end PM
