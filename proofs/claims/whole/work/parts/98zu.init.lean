/-! THE BEGINNING: what both constructors make -/
def nmI (a N b : Nat) : Option pN := if b < a then none else if b = a then some (0, 0, 0) else if b = a + 1 then some (0, 0, 2) else if b = a + 2 then some (0, 0, 3) else if b < a + 6 then some (1, 0, b - (a + 3)) else if b = a + 6 then some (0, 0, 1) else if b < a + 7 + 3 * N then some (2, (b - (a + 7)) / 3, (b - (a + 7)) % 3) else if b = a + 7 + 3 * N then some (0, 0, 4) else if b = a + 7 + 3 * N + 1 then some (0, 0, 5) else if b < a + 7 + 3 * N + 2 + 29 then some (6, 0, b - (a + 7 + 3 * N + 2)) else none
def adI (a N : Nat) (x : pN) : Nat := if x.1 = 0 then (if x.2.2 = 0 then a else if x.2.2 = 1 then a + 6 else if x.2.2 = 2 then a + 1 else if x.2.2 = 3 then a + 2 else if x.2.2 = 4 then a + 7 + 3 * N else a + 7 + 3 * N + 1) else if x.1 = 1 then a + 3 + x.2.2 else if x.1 = 2 then a + 7 + 3 * x.2.1 + x.2.2 else a + 7 + 3 * N + 2 + x.2.2
def lnI (N : Nat) (k i s : Nat) : Nat := if k = 0 then [0, N, 16, 40, N, N].getD s 0 else if k = 1 then [0, 520, 520].getD s 0 else if k = 2 then [0, 16, 16].getD s 0 else lenR.getD s 0
def eI (a N : Nat) : pE := (fun _ => none, adI a N, nmI a N, lnI N)
def rkI (a K : Nat) : Nat → Option Nat := fun x => if x < K then some (a + 7 + 3 * x) else none
def tI (a K : Nat) : pS := (fun k i f => if k = 2 ∧ f = 0 then nI i else 0, fun _ _ _ => 0, fun _ _ _ _ => 0, fun _ _ _ _ => 0, fun k i s => if k = 0 ∧ i = 0 ∧ s = 1 then rkI a K else fun _ => none)
def sI (N : Nat) : zSt := (N, 0, fun _ => none, fun _ => 0, false, fun _ => 0, fun _ => 0, fun _ => false, fun _ => none, fun _ => [], fun _ => [], fun _ => false, fun _ => 0, fun _ => false, fun _ => none, 0, fun _ => 0, fun _ _ => 0, fun _ _ => false, fun _ _ => false, fun _ _ => false, fun _ _ => 0, fun _ _ => 0, fun _ _ => false, fun _ _ => false, [])
section PB
variable {a N : Nat}
theorem nm0 : nmI a N a = some (0, 0, 0) := by
  unfold nmI
  rw [if_neg (by omega), if_pos rfl]
theorem nm1 : nmI a N (a + 1) = some (0, 0, 2) := by
  unfold nmI
  rw [if_neg (by omega), if_neg (by omega), if_pos rfl]
theorem nm2 : nmI a N (a + 2) = some (0, 0, 3) := by
  unfold nmI
  rw [if_neg (by omega), if_neg (by omega), if_neg (by omega), if_pos rfl]
theorem nm3 {j : Nat} (hj : j < 3) : nmI a N (a + 3 + j) = some (1, 0, j) := by
  unfold nmI
  rw [if_neg (by omega), if_neg (by omega), if_neg (by omega), if_neg (by omega), if_pos (by omega), Nat.add_sub_cancel_left]
theorem nm6 : nmI a N (a + 6) = some (0, 0, 1) := by
  unfold nmI
  rw [if_neg (by omega), if_neg (by omega), if_neg (by omega), if_neg (by omega), if_neg (by omega), if_pos rfl]
theorem nm7 {x j : Nat} (hx : x < N) (hj : j < 3) : nmI a N (a + 7 + 3 * x + j) = some (2, x, j) := by
  unfold nmI
  rw [if_neg (by omega), if_neg (by omega), if_neg (by omega), if_neg (by omega), if_neg (by omega), if_neg (by omega), if_pos (by omega), show (a + 7 + 3 * x + j - (a + 7)) / 3 = x by omega, show (a + 7 + 3 * x + j - (a + 7)) % 3 = j by omega]
theorem nm8 : nmI a N (a + 7 + 3 * N) = some (0, 0, 4) := by
  unfold nmI
  rw [if_neg (by omega), if_neg (by omega), if_neg (by omega), if_neg (by omega), if_neg (by omega), if_neg (by omega), if_neg (by omega), if_pos rfl]
theorem nm9 : nmI a N (a + 7 + 3 * N + 1) = some (0, 0, 5) := by
  unfold nmI
  rw [if_neg (by omega), if_neg (by omega), if_neg (by omega), if_neg (by omega), if_neg (by omega), if_neg (by omega), if_neg (by omega), if_neg (by omega), if_pos rfl]
theorem nmR {j : Nat} (hj : j < 29) : nmI a N (a + 7 + 3 * N + 2 + j) = some (6, 0, j) := by
  unfold nmI
  rw [if_neg (by omega), if_neg (by omega), if_neg (by omega), if_neg (by omega), if_neg (by omega), if_neg (by omega), if_neg (by omega), if_neg (by omega), if_neg (by omega), if_pos (by omega), Nat.add_sub_cancel_left]
theorem nmX {b : Nat} (h : a + 7 + 3 * N + 2 + 29 ≤ b) : nmI a N b = none := by
  unfold nmI
  rw [if_neg (by omega), if_neg (by omega), if_neg (by omega), if_neg (by omega), if_neg (by omega), if_neg (by omega), if_neg (by omega), if_neg (by omega), if_neg (by omega), if_neg (by omega)]
theorem nmL {b : Nat} (h : b < a) : nmI a N b = none := by
  unfold nmI
  rw [if_pos h]
/-- every name is one of these -/
theorem nm_all {b : Nat} {x : pN} (h : nmI a N b = some x) : b = adI a N x ∧ b < a + 7 + 3 * N + 2 + 29 ∧ (x.1 = 0 ∨ x.1 = 1 ∨ x.1 = 2 ∨ x.1 = 6) := by
  unfold nmI at h
  split at h
  · cases h
  split at h
  · cases h; exact ⟨(by show b = a; omega), by omega, Or.inl rfl⟩
  split at h
  · cases h; exact ⟨(by show b = a + 1; omega), by omega, Or.inl rfl⟩
  split at h
  · cases h; exact ⟨(by show b = a + 2; omega), by omega, Or.inl rfl⟩
  split at h
  · cases h; exact ⟨(by show b = a + 3 + (b - (a + 3)); omega), by omega, Or.inr (Or.inl rfl)⟩
  split at h
  · cases h; exact ⟨(by show b = a + 6; omega), by omega, Or.inl rfl⟩
  split at h
  · cases h; exact ⟨(by show b = a + 7 + 3 * ((b - (a + 7)) / 3) + (b - (a + 7)) % 3; omega), by omega, Or.inr (Or.inr (Or.inl rfl))⟩
  split at h
  · cases h; exact ⟨(by show b = a + 7 + 3 * N; omega), by omega, Or.inl rfl⟩
  split at h
  · cases h; exact ⟨(by show b = a + 7 + 3 * N + 1; omega), by omega, Or.inl rfl⟩
  split at h
  · cases h; exact ⟨(by show b = a + 7 + 3 * N + 2 + (b - (a + 7 + 3 * N + 2)); omega), by omega, Or.inr (Or.inr (Or.inr rfl))⟩
  · cases h
theorem okI : pOk (eI a N) := fun _ _ h => (nm_all h).1
theorem pvI {t : pS} {b : Nat} {x : pN} (h : nmI a N b = some x) : pv (eI a N) t b = some (pcell (eI a N) t x) := by
  unfold pv
  rw [show (eI a N).2.2.1 b = some x from h]
theorem pvN {t : pS} {b : Nat} (h : nmI a N b = none) : pv (eI a N) t b = none := by
  unfold pv
  rw [show (eI a N).2.2.1 b = none from h]
  rfl
end PB
/-- the map up to d, with the object at p still under way -/
def Qt (e : pE) (t : pS) (p d : Nat) (o : zE) : zV := fun b => if b = p then some o else if b < d then pv e t b else none
section PB
variable {e : pE} {t : pS} {p d : Nat} {o : zE}
theorem Qt_up {c : zE} (hc : pv e t d = some c) (hp : p < d) : z_up (Qt e t p d o) d c = Qt e t p (d + 1) o := by
  funext b
  unfold z_up Qt
  by_cases q : b = d
  · rw [if_pos q, if_neg (by omega), if_pos (by omega), q, hc]
  · rw [if_neg q]
    by_cases r : b = p
    · rw [if_pos r, if_pos r]
    · rw [if_neg r, if_neg r]
      by_cases r2 : b < d
      · rw [if_pos r2, if_pos (by omega)]
      · rw [if_neg r2, if_neg (by omega)]
theorem Qt_start : z_up (fun b => if b < d then pv e t b else none) d o = Qt e t d (d + 1) o := by
  funext b
  unfold z_up Qt
  by_cases q : b = d
  · rw [if_pos q, if_pos q]
  · rw [if_neg q, if_neg q]
    dsimp only
    by_cases r2 : b < d
    · rw [if_pos r2, if_pos (by omega)]
    · rw [if_neg r2, if_neg (by omega)]
theorem Qt_end (h : pv e t p = some o) (hp : p < d) : Qt e t p d o = fun b => if b < d then pv e t b else none := by
  funext b
  unfold Qt
  by_cases q : b = p
  · rw [if_pos q, if_pos (by omega), q, h]
  · rw [if_neg q]
theorem Qt_mk {l : List zE} (h : ∀ j, j < l.length → pv e t (d + j) = l[j]?) (hp : p < d) : mkm (Qt e t p d o) d l = Qt e t p (d + l.length) o := by
  funext b
  unfold mkm
  by_cases q : d ≤ b ∧ b < d + l.length
  · rw [if_pos q]
    have := h (b - d) (by omega)
    rw [show d + (b - d) = b by omega] at this
    unfold Qt
    rw [if_neg (by omega), if_pos q.2, this]
  · rw [if_neg q]
    unfold Qt
    by_cases r : b = p
    · rw [if_pos r, if_pos r]
    · rw [if_neg r, if_neg r]
      by_cases r2 : b < d
      · rw [if_pos r2, if_pos (by omega)]
      · rw [if_neg r2, if_neg (by omega)]
theorem Qt_obj {ci : Nat} {fs : List Value} : z_obj (Qt e t p d (.inr (ci, fs))) (some p) [ci] = some (p, ci, fs) := by
  have h1 : Qt e t p d (.inr (ci, fs)) p = some (.inr (ci, fs)) := if_pos rfl
  have h2 : [ci].contains ci = true := by simp
  unfold z_obj
  simp only [Option.bind_some, h1, h2, if_true]
theorem Qt_p {ci k r : Nat} {fs : List Value} (hk : k < fs.length) : zpR (Qt e t p d (.inr (ci, fs))) (some p) [ci] k (some r) = some (Qt e t p d (.inr (ci, fs.set k (.ref r)))) := by
  unfold zpR zpf
  rw [Qt_obj, Option.bind_some, if_pos hk]
  congr 1
  funext b
  unfold z_up Qt
  by_cases q : b = p
  · rw [if_pos q, if_pos q]; rfl
  · rw [if_neg q, if_neg q, if_neg q]
theorem Qt_np {ci k L B tag : Nat} {fs : List Value} {z : Int32} {u : (Nat → Int32) ⊕ (Nat → Int64) ⊕ (Nat → UInt32) ⊕ (Nat → UInt64) ⊕ (Nat → Option Nat)} {K : zV → Nat → Option zR} (hc : pv e t d = some (.inl (tag, L, u))) (hp : p < d) (hz : z = nI L) (hB : L ≤ B) (hL : L < 2 ^ 31) (hk : k < fs.length) : (znwa (Qt e t p d (.inr (ci, fs))) d tag B z u fun t1 V n => (zpR V (some p) [ci] k (some t1)).bind fun V => K V n) = K (Qt e t p (d + 1) (.inr (ci, fs.set k (.ref d)))) (d + 1) := by
  unfold znwa
  rw [hz, nI_clamp hL, if_neg (by
    rintro (q | q)
    · exact nI_nn hL q
    · omega), Qt_up hc hp]
  dsimp only
  rw [Qt_p hk, Option.bind_some]
end PB
