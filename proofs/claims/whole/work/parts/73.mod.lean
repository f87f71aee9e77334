/-! HOW THE REFERENCE HOLDS THE MATHEMATICAL STATE -/
def b2i (b : Bool) : Int32 := if b then 1 else 0
def o2i (x : Option Nat) : Int32 := match x with
  | none => -1
  | some k => nI k
theorem b2i_01 (b : Bool) : b2i b = 0 ∨ b2i b = 1 := by cases b <;> simp [b2i]
theorem b2i_or (a b : Bool) : b2i a ||| b2i b = b2i (a || b) := by cases a <;> cases b <;> decide
theorem b2i_and (a b : Bool) : b2i a &&& b2i b = b2i (a && b) := by cases a <;> cases b <;> decide
theorem b2i_eq0 (b : Bool) : b2i b = 0 ↔ b = false := by cases b <;> decide
/-- the lengths of the reference's arrays -/
def lenR : List Nat := [34, 8, 8, 8, 8, 16, 16, 256, 256, 16, 3200, 16, 16, 16, 16, 16, 40, 640, 640, 320, 320, 320, 320, 320, 320, 1024, 1024, 8, 8]
/-- the reference's cells are there, with their lengths -/
def pRf (e : pE) : Prop := pOk e ∧ (∀ s, s ≤ 28 → pIs e 6 0 s) ∧ ∀ s, s ≤ 28 → e.2.2.2 6 0 s = lenR.getD s 0
/-- bounds of the mathematical state -/
def Wf (s : zSt) : Prop := (1 ≤ s_N s ∧ s_N s ≤ 8) ∧ s_C s ≤ 16 ∧ s_M s ≤ 40 ∧ (∀ c, c < s_C s → s_to s c < s_N s ∧ ∀ k, s_fr s c = some k → k < s_N s) ∧ (∀ c, (s_q s c).length ≤ 9 ∧ (s_log s c).length ≤ 200 ∧ s_stand s c ≤ (s_log s c).length) ∧ (∀ c k, s_held s c = some k → k < s_M s) ∧ (∀ t k, s_latest s t = some k → k < s_C s) ∧ (∀ z ∈ s_acks s, z.1 < s_M s ∧ z.2 < s_N s) ∧ (s_acks s).length ≤ 520 ∧ (∀ m, s_cond s m ≤ 2) ∧ (∀ m c, s_pos s m c ≤ 200) ∧ ∀ c z, z ∈ s_q s c → z.1 ≤ 2
def ModF (t : pS) (s : zSt) : Prop := qI t 6 0 0 = nI (s_N s) ∧ qI t 6 0 2 = b2i (s_tol s) ∧ qI t 6 0 7 = nI (s_C s) ∧ qI t 6 0 19 = nI (s_M s) ∧ qI t 6 0 29 = nI (s_acks s).length
def ModT (t : pS) (s : zSt) : Prop := ∀ x, x < 8 → rJ t 6 0 1 x = s_sum s x ∧ rI t 6 0 2 x = s_rows s x ∧ rI t 6 0 3 x = b2i (s_ended s x) ∧ rI t 6 0 4 x = o2i (s_latest s x)
def ModC (t : pS) (s : zSt) : Prop := ∀ c, c < 16 → (c < s_C s → rI t 6 0 5 c = o2i (s_fr s c) ∧ rI t 6 0 6 c = nI (s_to s c)) ∧ rI t 6 0 9 c = nI (s_q s c).length ∧ rI t 6 0 11 c = nI (s_log s c).length ∧ rI t 6 0 12 c = b2i (s_fin s c) ∧ rI t 6 0 13 c = nI (s_stand s c) ∧ rI t 6 0 14 c = b2i (s_over s c) ∧ rI t 6 0 15 c = o2i (s_held s c)
def ModQ (t : pS) (s : zSt) : Prop := ∀ c, c < 16 → (∀ i z, (s_q s c)[i]? = some z → rI t 6 0 7 (16 * c + i) = nI z.1 ∧ rJ t 6 0 8 (16 * c + i) = z.2) ∧ ∀ i v, (s_log s c)[i]? = some v → rJ t 6 0 10 (200 * c + i) = v
def ModM (t : pS) (s : zSt) : Prop := ∀ m, m < 40 → rI t 6 0 16 m = nI (s_cond s m) ∧ (∀ c, c < 16 → (m < s_M s → rI t 6 0 17 (16 * m + c) = nI (s_pos s m c)) ∧ rI t 6 0 18 (16 * m + c) = b2i (s_came s m c)) ∧ ∀ x, x < 8 → rI t 6 0 19 (8 * m + x) = b2i (s_kept s m x) ∧ (s_kept s m x = true → rI t 6 0 20 (8 * m + x) = b2i (s_kEnd s m x) ∧ rJ t 6 0 21 (8 * m + x) = s_kSum s m x ∧ rI t 6 0 22 (8 * m + x) = s_kRows s m x) ∧ rI t 6 0 23 (8 * m + x) = b2i (s_fails s m x) ∧ rI t 6 0 24 (8 * m + x) = b2i (s_taken s m x)
def ModA (t : pS) (s : zSt) : Prop := ∀ i z, (s_acks s)[i]? = some z → rI t 6 0 25 i = nI z.1 ∧ rI t 6 0 26 i = nI z.2
def Mod (t : pS) (s : zSt) : Prop := ModF t s ∧ ModT t s ∧ ModC t s ∧ ModQ t s ∧ ModM t s ∧ ModA t s
section PM
variable {e : pE} {t : pS} {s : zSt} {n : Nat}
theorem pRf.is (h : pRf e) {k : Nat} (hk : k ≤ 28) : pIs e 6 0 k := h.2.1 k hk
theorem pRf.len (h : pRf e) {k : Nat} (hk : k ≤ 28) : e.2.2.2 6 0 k = lenR.getD k 0 := h.2.2 k hk
theorem fR_hasInto_4_eq (h : pRf e) (M : Mod t s) (w : Wf s) {x : Nat} (hx : x < 8) : ∀ (d c : Nat) (b : Bool) (f : Nat), c + d = s_C s → d < f → fR_hasInto_4 f (pv e t) n (pL e 6 0 0) (nI x) (b2i b) (nI c) = some (.inl (some (.int (b2i (b || (List.range' c d).any fun c => s_to s c == x)))), pv e t, n) := by
  intro d
  induction d with
  | zero =>
    intro c b f hc hf
    obtain ⟨f, rfl⟩ : ∃ g, f = g + 1 := ⟨f - 1, by omega⟩
    have hC := w.2.1
    unfold fR_hasInto_4
    rw [gf_6_7 (h.is (by omega)), M.1.2.2.1]
    simp only [Option.bind_some]
    rw [if_pos (nI_le (by omega) (by omega))]
    unfold zrZ
    rw [if_pos (b2i_01 b)]
    simp
  | succ d ih =>
    intro c b f hc hf
    obtain ⟨f, rfl⟩ : ∃ g, f = g + 1 := ⟨f - 1, by omega⟩
    have hC := w.2.1
    have hto := ((M.2.2.1 c (by omega)).1 (by omega)).2
    have hl6 : e.2.2.2 6 0 6 = 16 := h.len (by omega)
    unfold fR_hasInto_4
    rw [gf_6_7 (h.is (by omega)), M.1.2.2.1]
    simp only [Option.bind_some]
    rw [if_neg (nI_ge (by omega) (by omega)), gf_6_9 (h.is (by omega))]
    simp only [Option.bind_some]
    rw [ga_6_6 (h.is (by omega)) (by omega) (by omega), hto]
    simp only [Option.bind_some]
    unfold fR_hasInto_28
    have hlt := (w.2.2.2.1 c (by omega)).1
    have hw := w.1
    have key : (if nI (s_to s c) = nI x then fR_hasInto_4 f (pv e t) n (pL e 6 0 0) (nI x) (b2i b ||| 1) (nI c + 1) else fR_hasInto_4 f (pv e t) n (pL e 6 0 0) (nI x) (b2i b ||| 0) (nI c + 1)) = fR_hasInto_4 f (pv e t) n (pL e 6 0 0) (nI x) (b2i (b || s_to s c == x)) (nI (c + 1)) := by
      rw [nI_1]
      by_cases hq : s_to s c = x
      · rw [if_pos (by rw [hq]), show (s_to s c == x) = true by simp [hq], ← b2i_or]; rfl
      · rw [if_neg (fun q => hq ((nI_eq (by omega) (by omega)).mp q)), show (s_to s c == x) = false by simp [hq], ← b2i_or]; rfl
    rw [key, ih (c + 1) _ f (by omega) (by omega)]
    simp [List.range'_succ, Bool.or_assoc]
end PM
