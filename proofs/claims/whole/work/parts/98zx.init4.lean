/-! at the beginning the invariant holds -/
section PB
variable {a N : Nat} {g g' : Nat → Int32}
def tE (a N : Nat) (g g' : Nat → Int32) : pS := uI (uI (wI (tI a N) 6 0 0 (nI N)) 6 0 4 g) 6 0 15 g'
theorem insI (x : Nat) : ins (sI N) x = [] := rfl
theorem outsI (x : Nat) : outs (sI N) x = [] := rfl
theorem nil_get {α : Type} {i : Nat} {z : α} (h : ([] : List α)[i]? = some z) : False := by simp at h
theorem modI (hg : ∀ x, x < 8 → g x = -1) (hg' : ∀ x, x < 16 → g' x = -1) : Mod (tE a N g g') (sI N) := ⟨rfl, rfl, rfl, rfl, rfl, fun x _ => rfl, fun x _ => rfl, fun x _ => rfl, fun x hx => hg x hx, fun x hx => absurd hx (by show ¬ x < 0; omega), fun x hx => absurd hx (by show ¬ x < 0; omega), fun c _ i z h => (nil_get h).elim, fun c _ i z h => (nil_get h).elim, fun x _ => rfl, fun c _ i z h => (nil_get h).elim, fun x _ => rfl, fun x _ => rfl, fun x _ => rfl, fun x _ => rfl, fun x hx => hg' x hx, fun x _ => rfl, fun m x _ _ => rfl, fun m x _ _ => rfl, fun m x _ _ => rfl, fun m x _ _ => rfl, fun m x _ _ => rfl, fun m x _ _ => rfl, fun m x _ _ => rfl, fun m x _ _ => rfl, fun i z h => (nil_get h).elim, fun i z h => (nil_get h).elim⟩
theorem cEI : cE (eI a N) N 0 (s_fr (sI N)) 0 := ⟨⟨okI, fun j hj => by
    rcases (show j = 0 ∨ j = 1 ∨ j = 2 ∨ j = 3 ∨ j = 4 ∨ j = 5 by
      have : j < 6 := hj
      omega) with rfl | rfl | rfl | rfl | rfl | rfl
    · exact nm0
    · exact nm6
    · exact nm1
    · exact nm2
    · exact nm8
    · exact nm9, fun j hj => rfl⟩, ⟨okI, fun j hj => nm3 (show j < 3 from hj), fun j hj => rfl⟩, fun x hx => ⟨okI, fun j hj => nm7 hx (show j < 3 from hj), fun j hj => rfl⟩, fun c hc => absurd hc (by omega), fun c k hc => absurd hc (by omega), fun m hm => absurd hm (by omega)⟩
theorem clsI : Cls (eI a N) (tE a N g g') (sI N) := by
  refine ⟨cEI, ⟨fun x hx => ?_, fun c hc => absurd hc (by show ¬ c < 0; omega), fun m hm => absurd hm (by show ¬ m < 0; omega), fun x i c hx h => (nil_get h).elim, fun x i c hx h => (nil_get h).elim⟩, ⟨rfl, rfl, rfl, rfl⟩, ⟨0, by omega, rfl, rfl, by show 0 ≤ 520; omega, fun i z h => (nil_get h).elim⟩, fun x hx => ⟨rfl, rfl, rfl, rfl, rfl, rfl, rfl⟩, fun c hc => absurd hc (by show ¬ c < 0; omega), fun c hc => absurd hc (by show ¬ c < 0; omega), fun c k hc => absurd hc (by show ¬ c < 0; omega), fun m hm => absurd hm (by show ¬ m < 0; omega)⟩
  show rkI a N x = some (a + 7 + 3 * x + 0)
  exact if_pos hx
theorem wfI (h1 : 1 ≤ N) (h8 : N ≤ 8) : Wf (sI N) := ⟨h1, h8, (by show 0 ≤ 16; omega), (by show 0 ≤ 40; omega), fun c hc => absurd hc (by show ¬ c < 0; omega), fun c k hc => absurd hc (by show ¬ c < 0; omega), fun c => (by show 0 ≤ 12; omega), fun c => (by show 0 ≤ 200; omega), fun c => Nat.le_refl _, fun c k h => (by cases h), fun c k h => (by cases h), fun z h => (by cases h), (by show 0 ≤ 1000; omega), fun m => (by show 0 ≤ 2; omega), fun m c => (by show 0 ≤ 200; omega), fun c z h => (by cases h), fun c z h => (by cases h), fun c hc => absurd hc (by show ¬ c < 0; omega)⟩
theorem ivI (h1 : 1 ≤ N) (h8 : N ≤ 8) : Iv (sI N) := ⟨wfI h1 h8, fun c hc => absurd hc (by show ¬ c < 0; omega), (by show 0 ≤ 200 + kp (sI N); omega), fun c k hc => absurd hc (by show ¬ c < 0; omega), fun _ => ⟨rfl, fun c => ⟨rfl, rfl, rfl, rfl, rfl, rfl⟩, fun x => ⟨rfl, rfl⟩, rfl⟩, ⟨fun c _ => ⟨rfl, rfl, rfl, rfl, rfl, rfl⟩, fun m _ => ⟨rfl, fun x => ⟨rfl, rfl, rfl, rfl, rfl, rfl⟩, fun c => rfl⟩⟩, fun c hc => absurd hc (by show ¬ c < 0; omega), fun c k hc => absurd hc (by show ¬ c < 0; omega), ⟨fun _ => 0, fun c k hc => absurd hc (by show ¬ c < 0; omega)⟩, fun c k hc => absurd hc (by show ¬ c < 0; omega), (by show 0 ≤ 3; omega)⟩
theorem neI {k i : Nat} (h : k = 3 ∨ k = 4 ∨ k = 5) : NE (eI a N) k i := fun b x hx z => by
  have := (nm_all hx).2.2
  omega
theorem geI : GE (eI a N) (a + 7 + 3 * N + 2 + 29 + 1) (sI N) := ⟨fun b x hx => by have := (nm_all hx).2.1; omega, fun b x hx => by have := (nm_all hx).2.2; omega, fun m _ => neI (Or.inr (Or.inr rfl)), fun c _ => ⟨neI (Or.inl rfl), neI (Or.inr (Or.inl rfl))⟩⟩
theorem pv_new {e : pE} {t : pS} {o : Nat} {c : zE} (h : e.2.2.1 o = none) : z_up (pv e t) o c = pv (z_up e.1 o c, e.2) t := by
  funext b
  show (if b = o then some c else pv e t b) = _
  by_cases q : b = o
  · rw [if_pos q, q]
    exact ((pv_o (e := (z_up e.1 o c, e.2)) h).trans (if_pos rfl)).symm
  · rw [if_neg q]
    unfold pv
    show _ = match e.2.2.1 b with | some x => some (pcell (_, e.2) t x) | none => if b = o then _ else e.1 b
    cases e.2.2.1 b with
    | some x => rfl
    | none => exact (if_neg q).symm
theorem init_ok : LInit InvW := by
  intro a x
  obtain ⟨N, h1, h8, hx, hF⟩ := cnt_of x
  obtain ⟨g, g', hg, hg', h3⟩ := fR_init_263_eq (e := eI a N) (t := tI a N) (n := a + 7 + 3 * N + 2 + 29) pRfI (nI N)
  refine ⟨_, _, pv (eI a N) (tE a N g g'), a + 7 + 3 * N + 2 + 29, fB_init_eq h1 h8 hx, ?_, ?_⟩
  · rw [fR_init_run, hF (fun v => fR_init_263 (pv (eI a N) (tI a N)) (a + 7 + 3 * N + 2 + 29) (a + 7 + 3 * N + 2) (some (a + 7 + 3 * N + 2)) v)]
    exact h3
  · have hnone : (eI a N).2.2.1 (a + 7 + 3 * N + 2 + 29) = none := nmX (Nat.le_refl _)
    rw [pv_new hnone]
    exact ⟨_, _, sI N, rfl, ⟨eo_Rf _ pRfI, modI hg hg', eo_Cls _ clsI, ivI h1 h8, eo_GE _ geI⟩, rfl, rfl, by omega, hnone, 1, _, if_pos rfl, by omega⟩
theorem all_ok : LOk InvW := ⟨init_ok, st_all⟩
end PB
