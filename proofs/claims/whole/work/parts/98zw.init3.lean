/-! the reference's constructor -/
section PB
variable {a N : Nat}
theorem cR1 {K : Nat} : pv (eI a N) (tI a K) (a + 7 + 3 * N + 2 + 1) = some (.inl (1, 8, (.inr (.inl (fun _ => 0))))) := by
  refine (pvI (nmR (j := 1) (by omega))).trans ?_
  rfl
theorem cR2 {K : Nat} : pv (eI a N) (tI a K) (a + 7 + 3 * N + 2 + 1 + 1) = some (.inl (0, 8, (.inl (fun _ => 0)))) := by
  refine (pvI (nmR (j := 2) (by omega))).trans ?_
  rfl
theorem cR3 {K : Nat} : pv (eI a N) (tI a K) (a + 7 + 3 * N + 2 + 1 + 1 + 1) = some (.inl (2, 8, (.inl (fun _ => 0)))) := by
  refine (pvI (nmR (j := 3) (by omega))).trans ?_
  rfl
theorem cR4 {K : Nat} : pv (eI a N) (tI a K) (a + 7 + 3 * N + 2 + 1 + 1 + 1 + 1) = some (.inl (0, 8, (.inl (fun _ => 0)))) := by
  refine (pvI (nmR (j := 4) (by omega))).trans ?_
  rfl
theorem cR5 {K : Nat} : pv (eI a N) (tI a K) (a + 7 + 3 * N + 2 + 1 + 1 + 1 + 1 + 1) = some (.inl (0, 16, (.inl (fun _ => 0)))) := by
  refine (pvI (nmR (j := 5) (by omega))).trans ?_
  rfl
theorem cR6 {K : Nat} : pv (eI a N) (tI a K) (a + 7 + 3 * N + 2 + 1 + 1 + 1 + 1 + 1 + 1) = some (.inl (0, 16, (.inl (fun _ => 0)))) := by
  refine (pvI (nmR (j := 6) (by omega))).trans ?_
  rfl
theorem cR7 {K : Nat} : pv (eI a N) (tI a K) (a + 7 + 3 * N + 2 + 1 + 1 + 1 + 1 + 1 + 1 + 1) = some (.inl (0, 256, (.inl (fun _ => 0)))) := by
  refine (pvI (nmR (j := 7) (by omega))).trans ?_
  rfl
theorem cR8 {K : Nat} : pv (eI a N) (tI a K) (a + 7 + 3 * N + 2 + 1 + 1 + 1 + 1 + 1 + 1 + 1 + 1) = some (.inl (1, 256, (.inr (.inl (fun _ => 0))))) := by
  refine (pvI (nmR (j := 8) (by omega))).trans ?_
  rfl
theorem cR9 {K : Nat} : pv (eI a N) (tI a K) (a + 7 + 3 * N + 2 + 1 + 1 + 1 + 1 + 1 + 1 + 1 + 1 + 1) = some (.inl (0, 16, (.inl (fun _ => 0)))) := by
  refine (pvI (nmR (j := 9) (by omega))).trans ?_
  rfl
theorem cR10 {K : Nat} : pv (eI a N) (tI a K) (a + 7 + 3 * N + 2 + 1 + 1 + 1 + 1 + 1 + 1 + 1 + 1 + 1 + 1) = some (.inl (1, 3200, (.inr (.inl (fun _ => 0))))) := by
  refine (pvI (nmR (j := 10) (by omega))).trans ?_
  rfl
theorem cR11 {K : Nat} : pv (eI a N) (tI a K) (a + 7 + 3 * N + 2 + 1 + 1 + 1 + 1 + 1 + 1 + 1 + 1 + 1 + 1 + 1) = some (.inl (0, 16, (.inl (fun _ => 0)))) := by
  refine (pvI (nmR (j := 11) (by omega))).trans ?_
  rfl
theorem cR12 {K : Nat} : pv (eI a N) (tI a K) (a + 7 + 3 * N + 2 + 1 + 1 + 1 + 1 + 1 + 1 + 1 + 1 + 1 + 1 + 1 + 1) = some (.inl (2, 16, (.inl (fun _ => 0)))) := by
  refine (pvI (nmR (j := 12) (by omega))).trans ?_
  rfl
theorem cR13 {K : Nat} : pv (eI a N) (tI a K) (a + 7 + 3 * N + 2 + 1 + 1 + 1 + 1 + 1 + 1 + 1 + 1 + 1 + 1 + 1 + 1 + 1) = some (.inl (0, 16, (.inl (fun _ => 0)))) := by
  refine (pvI (nmR (j := 13) (by omega))).trans ?_
  rfl
theorem cR14 {K : Nat} : pv (eI a N) (tI a K) (a + 7 + 3 * N + 2 + 1 + 1 + 1 + 1 + 1 + 1 + 1 + 1 + 1 + 1 + 1 + 1 + 1 + 1) = some (.inl (2, 16, (.inl (fun _ => 0)))) := by
  refine (pvI (nmR (j := 14) (by omega))).trans ?_
  rfl
theorem cR15 {K : Nat} : pv (eI a N) (tI a K) (a + 7 + 3 * N + 2 + 1 + 1 + 1 + 1 + 1 + 1 + 1 + 1 + 1 + 1 + 1 + 1 + 1 + 1 + 1) = some (.inl (0, 16, (.inl (fun _ => 0)))) := by
  refine (pvI (nmR (j := 15) (by omega))).trans ?_
  rfl
theorem cR16 {K : Nat} : pv (eI a N) (tI a K) (a + 7 + 3 * N + 2 + 1 + 1 + 1 + 1 + 1 + 1 + 1 + 1 + 1 + 1 + 1 + 1 + 1 + 1 + 1 + 1) = some (.inl (0, 40, (.inl (fun _ => 0)))) := by
  refine (pvI (nmR (j := 16) (by omega))).trans ?_
  rfl
theorem cR17 {K : Nat} : pv (eI a N) (tI a K) (a + 7 + 3 * N + 2 + 1 + 1 + 1 + 1 + 1 + 1 + 1 + 1 + 1 + 1 + 1 + 1 + 1 + 1 + 1 + 1 + 1) = some (.inl (0, 640, (.inl (fun _ => 0)))) := by
  refine (pvI (nmR (j := 17) (by omega))).trans ?_
  rfl
theorem cR18 {K : Nat} : pv (eI a N) (tI a K) (a + 7 + 3 * N + 2 + 1 + 1 + 1 + 1 + 1 + 1 + 1 + 1 + 1 + 1 + 1 + 1 + 1 + 1 + 1 + 1 + 1 + 1) = some (.inl (2, 640, (.inl (fun _ => 0)))) := by
  refine (pvI (nmR (j := 18) (by omega))).trans ?_
  rfl
theorem cR19 {K : Nat} : pv (eI a N) (tI a K) (a + 7 + 3 * N + 2 + 1 + 1 + 1 + 1 + 1 + 1 + 1 + 1 + 1 + 1 + 1 + 1 + 1 + 1 + 1 + 1 + 1 + 1 + 1) = some (.inl (2, 320, (.inl (fun _ => 0)))) := by
  refine (pvI (nmR (j := 19) (by omega))).trans ?_
  rfl
theorem cR20 {K : Nat} : pv (eI a N) (tI a K) (a + 7 + 3 * N + 2 + 1 + 1 + 1 + 1 + 1 + 1 + 1 + 1 + 1 + 1 + 1 + 1 + 1 + 1 + 1 + 1 + 1 + 1 + 1 + 1) = some (.inl (2, 320, (.inl (fun _ => 0)))) := by
  refine (pvI (nmR (j := 20) (by omega))).trans ?_
  rfl
theorem cR21 {K : Nat} : pv (eI a N) (tI a K) (a + 7 + 3 * N + 2 + 1 + 1 + 1 + 1 + 1 + 1 + 1 + 1 + 1 + 1 + 1 + 1 + 1 + 1 + 1 + 1 + 1 + 1 + 1 + 1 + 1) = some (.inl (1, 320, (.inr (.inl (fun _ => 0))))) := by
  refine (pvI (nmR (j := 21) (by omega))).trans ?_
  rfl
theorem cR22 {K : Nat} : pv (eI a N) (tI a K) (a + 7 + 3 * N + 2 + 1 + 1 + 1 + 1 + 1 + 1 + 1 + 1 + 1 + 1 + 1 + 1 + 1 + 1 + 1 + 1 + 1 + 1 + 1 + 1 + 1 + 1) = some (.inl (0, 320, (.inl (fun _ => 0)))) := by
  refine (pvI (nmR (j := 22) (by omega))).trans ?_
  rfl
theorem cR23 {K : Nat} : pv (eI a N) (tI a K) (a + 7 + 3 * N + 2 + 1 + 1 + 1 + 1 + 1 + 1 + 1 + 1 + 1 + 1 + 1 + 1 + 1 + 1 + 1 + 1 + 1 + 1 + 1 + 1 + 1 + 1 + 1) = some (.inl (2, 320, (.inl (fun _ => 0)))) := by
  refine (pvI (nmR (j := 23) (by omega))).trans ?_
  rfl
theorem cR24 {K : Nat} : pv (eI a N) (tI a K) (a + 7 + 3 * N + 2 + 1 + 1 + 1 + 1 + 1 + 1 + 1 + 1 + 1 + 1 + 1 + 1 + 1 + 1 + 1 + 1 + 1 + 1 + 1 + 1 + 1 + 1 + 1 + 1) = some (.inl (2, 320, (.inl (fun _ => 0)))) := by
  refine (pvI (nmR (j := 24) (by omega))).trans ?_
  rfl
theorem cR25 {K : Nat} : pv (eI a N) (tI a K) (a + 7 + 3 * N + 2 + 1 + 1 + 1 + 1 + 1 + 1 + 1 + 1 + 1 + 1 + 1 + 1 + 1 + 1 + 1 + 1 + 1 + 1 + 1 + 1 + 1 + 1 + 1 + 1 + 1) = some (.inl (0, 1024, (.inl (fun _ => 0)))) := by
  refine (pvI (nmR (j := 25) (by omega))).trans ?_
  rfl
theorem cR26 {K : Nat} : pv (eI a N) (tI a K) (a + 7 + 3 * N + 2 + 1 + 1 + 1 + 1 + 1 + 1 + 1 + 1 + 1 + 1 + 1 + 1 + 1 + 1 + 1 + 1 + 1 + 1 + 1 + 1 + 1 + 1 + 1 + 1 + 1 + 1) = some (.inl (0, 1024, (.inl (fun _ => 0)))) := by
  refine (pvI (nmR (j := 26) (by omega))).trans ?_
  rfl
theorem cR27 {K : Nat} : pv (eI a N) (tI a K) (a + 7 + 3 * N + 2 + 1 + 1 + 1 + 1 + 1 + 1 + 1 + 1 + 1 + 1 + 1 + 1 + 1 + 1 + 1 + 1 + 1 + 1 + 1 + 1 + 1 + 1 + 1 + 1 + 1 + 1 + 1) = some (.inl (1, 8, (.inr (.inl (fun _ => 0))))) := by
  refine (pvI (nmR (j := 27) (by omega))).trans ?_
  rfl
theorem cR28 {K : Nat} : pv (eI a N) (tI a K) (a + 7 + 3 * N + 2 + 1 + 1 + 1 + 1 + 1 + 1 + 1 + 1 + 1 + 1 + 1 + 1 + 1 + 1 + 1 + 1 + 1 + 1 + 1 + 1 + 1 + 1 + 1 + 1 + 1 + 1 + 1 + 1) = some (.inl (1, 8, (.inr (.inl (fun _ => 0))))) := by
  refine (pvI (nmR (j := 28) (by omega))).trans ?_
  rfl
theorem pRfI : pRf (eI a N) := ⟨okI, fun j hj => nmR (j := j) (by omega), fun j hj => rfl⟩
set_option maxHeartbeats 4000000 in
theorem fR_init_run (x : Int32) : fR_init (z_up (fun b => if b < a + 7 + 3 * N + 2 then pv (eI a N) (tI a N) b else none) (a + 7 + 3 * N + 2) (.inr (6, zfs6))) (a + 7 + 3 * N + 2 + 1) (a + 7 + 3 * N + 2) x = if (1 : Int32) ≤ x then (if x ≤ (8 : Int32) then fR_init_263 (pv (eI a N) (tI a N)) (a + 7 + 3 * N + 2 + 29) (a + 7 + 3 * N + 2) (some (a + 7 + 3 * N + 2)) x else fR_init_263 (pv (eI a N) (tI a N)) (a + 7 + 3 * N + 2 + 29) (a + 7 + 3 * N + 2) (some (a + 7 + 3 * N + 2)) (8 : Int32)) else fR_init_263 (pv (eI a N) (tI a N)) (a + 7 + 3 * N + 2 + 29) (a + 7 + 3 * N + 2) (some (a + 7 + 3 * N + 2)) (1 : Int32) := by
  rw [Qt_start]
  unfold fR_init
  generalize fR_init_263 = R
  rw [Qt_np cR1 (by omega) (show (8 : Int32) = nI 8 from rfl) (by decide) (by decide) (by show 3 < 34; omega), Qt_np cR2 (by omega) (show (8 : Int32) = nI 8 from rfl) (by decide) (by decide) (by simp only [List.length_set]; show 4 < 34; omega), Qt_np cR3 (by omega) (show (8 : Int32) = nI 8 from rfl) (by decide) (by decide) (by simp only [List.length_set]; show 5 < 34; omega), Qt_np cR4 (by omega) (show (8 : Int32) = nI 8 from rfl) (by decide) (by decide) (by simp only [List.length_set]; show 6 < 34; omega), Qt_np cR5 (by omega) (show (16 : Int32) = nI 16 from rfl) (by decide) (by decide) (by simp only [List.length_set]; show 8 < 34; omega), Qt_np cR6 (by omega) (show (16 : Int32) = nI 16 from rfl) (by decide) (by decide) (by simp only [List.length_set]; show 9 < 34; omega), Qt_np cR7 (by omega) (show (256 : Int32) = nI 256 from rfl) (by decide) (by decide) (by simp only [List.length_set]; show 10 < 34; omega), Qt_np cR8 (by omega) (show (256 : Int32) = nI 256 from rfl) (by decide) (by decide) (by simp only [List.length_set]; show 11 < 34; omega), Qt_np cR9 (by omega) (show (16 : Int32) = nI 16 from rfl) (by decide) (by decide) (by simp only [List.length_set]; show 12 < 34; omega), Qt_np cR10 (by omega) (show (3200 : Int32) = nI 3200 from rfl) (by decide) (by decide) (by simp only [List.length_set]; show 13 < 34; omega), Qt_np cR11 (by omega) (show (16 : Int32) = nI 16 from rfl) (by decide) (by decide) (by simp only [List.length_set]; show 14 < 34; omega), Qt_np cR12 (by omega) (show (16 : Int32) = nI 16 from rfl) (by decide) (by decide) (by simp only [List.length_set]; show 15 < 34; omega), Qt_np cR13 (by omega) (show (16 : Int32) = nI 16 from rfl) (by decide) (by decide) (by simp only [List.length_set]; show 16 < 34; omega), Qt_np cR14 (by omega) (show (16 : Int32) = nI 16 from rfl) (by decide) (by decide) (by simp only [List.length_set]; show 17 < 34; omega), Qt_np cR15 (by omega) (show (16 : Int32) = nI 16 from rfl) (by decide) (by decide) (by simp only [List.length_set]; show 18 < 34; omega), Qt_np cR16 (by omega) (show (40 : Int32) = nI 40 from rfl) (by decide) (by decide) (by simp only [List.length_set]; show 20 < 34; omega), Qt_np cR17 (by omega) (show (640 : Int32) = nI 640 from rfl) (by decide) (by decide) (by simp only [List.length_set]; show 21 < 34; omega), Qt_np cR18 (by omega) (show (640 : Int32) = nI 640 from rfl) (by decide) (by decide) (by simp only [List.length_set]; show 22 < 34; omega), Qt_np cR19 (by omega) (show (320 : Int32) = nI 320 from rfl) (by decide) (by decide) (by simp only [List.length_set]; show 23 < 34; omega), Qt_np cR20 (by omega) (show (320 : Int32) = nI 320 from rfl) (by decide) (by decide) (by simp only [List.length_set]; show 24 < 34; omega), Qt_np cR21 (by omega) (show (320 : Int32) = nI 320 from rfl) (by decide) (by decide) (by simp only [List.length_set]; show 25 < 34; omega), Qt_np cR22 (by omega) (show (320 : Int32) = nI 320 from rfl) (by decide) (by decide) (by simp only [List.length_set]; show 26 < 34; omega), Qt_np cR23 (by omega) (show (320 : Int32) = nI 320 from rfl) (by decide) (by decide) (by simp only [List.length_set]; show 27 < 34; omega), Qt_np cR24 (by omega) (show (320 : Int32) = nI 320 from rfl) (by decide) (by decide) (by simp only [List.length_set]; show 28 < 34; omega), Qt_np cR25 (by omega) (show (1024 : Int32) = nI 1024 from rfl) (by decide) (by decide) (by simp only [List.length_set]; show 30 < 34; omega), Qt_np cR26 (by omega) (show (1024 : Int32) = nI 1024 from rfl) (by decide) (by decide) (by simp only [List.length_set]; show 31 < 34; omega), Qt_np cR27 (by omega) (show (8 : Int32) = nI 8 from rfl) (by decide) (by decide) (by simp only [List.length_set]; show 32 < 34; omega), Qt_np cR28 (by omega) (show (8 : Int32) = nI 8 from rfl) (by decide) (by decide) (by simp only [List.length_set]; show 33 < 34; omega)]
  have he : pv (eI a N) (tI a N) = fun b => if b < a + 7 + 3 * N + 2 + 29 then pv (eI a N) (tI a N) b else none := by
    funext b
    by_cases q : b < a + 7 + 3 * N + 2 + 29
    · rw [if_pos q]
    · rw [if_neg q, pvN (nmX (by omega))]
  simp only [zfs6, List.set_cons_succ, List.set_cons_zero]
  rw [Qt_end (e := eI a N) (t := tI a N) ?_ (by omega)]
  · rw [← he]
  · refine (pvI (nmR (j := 0) (by omega))).trans ?_
    rfl
end PB
section PB
variable {e : pE} {t : pS} {n : Nat}
theorem fR_init_289_eq (h : pRf e) : ∀ (d c : Nat) (g : Nat → Int32) (f : Nat), c + d = 16 → d < f → (∀ x, x < c → g x = -1) → ∃ g', (∀ x, x < 16 → g' x = -1) ∧ fR_init_289 f (pv e (uI t 6 0 15 g)) n (pL e 6 0 0) (nI c) = some (.inl none, pv e (uI t 6 0 15 g'), n) := by
  intro d
  induction d with
  | zero =>
    intro c g f hc hf hg
    obtain ⟨f, rfl⟩ : ∃ g, f = g + 1 := ⟨f - 1, by omega⟩
    refine ⟨g, fun x hx => hg x (by omega), ?_⟩
    unfold fR_init_289
    rw [if_pos (by rw [show (16 : Int32) = nI 16 from rfl, nI_leI (by decide) (by omega)]; omega)]
    rfl
  | succ d ih =>
    intro c g f hc hf hg
    obtain ⟨f, rfl⟩ : ∃ g, f = g + 1 := ⟨f - 1, by omega⟩
    obtain ⟨g', h1, h2⟩ := ih (c + 1) (upd g c (-1)) f (by omega) (by omega) (fun x hx => by
      rw [upd_fu]
      by_cases q : x = c
      · rw [q, fu_self]
      · rw [fu_ne _ _ q]; exact hg x (by omega))
    refine ⟨g', h1, ?_⟩
    rw [← h2]
    generalize hR : fR_init_289 f = R
    unfold fR_init_289
    rw [hR, if_neg (by rw [show (16 : Int32) = nI 16 from rfl, nI_leI (by decide) (by omega)]; omega), rf_18 h, Option.bind_some, rs_15 h (by omega), Option.bind_some, uI_uI, rI_uI, if_pos ⟨rfl, rfl, rfl⟩, nI_1]
theorem fR_init_268_eq (h : pRf e) : ∀ (d c : Nat) (g : Nat → Int32) (f : Nat), c + d = 8 → d < f → (∀ x, x < c → g x = -1) → ∃ g', (∀ x, x < 8 → g' x = -1) ∧ fR_init_268 f (pv e (uI t 6 0 4 g)) n (pL e 6 0 0) (nI c) = fR_init_289 zF (pv e (uI t 6 0 4 g')) n (pL e 6 0 0) 0 := by
  intro d
  induction d with
  | zero =>
    intro c g f hc hf hg
    obtain ⟨f, rfl⟩ : ∃ g, f = g + 1 := ⟨f - 1, by omega⟩
    refine ⟨g, fun x hx => hg x (by omega), ?_⟩
    unfold fR_init_268
    generalize fR_init_289 zF = R
    rw [if_pos (by rw [show (8 : Int32) = nI 8 from rfl, nI_leI (by decide) (by omega)]; omega)]
  | succ d ih =>
    intro c g f hc hf hg
    obtain ⟨f, rfl⟩ : ∃ g, f = g + 1 := ⟨f - 1, by omega⟩
    obtain ⟨g', h1, h2⟩ := ih (c + 1) (upd g c (-1)) f (by omega) (by omega) (fun x hx => by
      rw [upd_fu]
      by_cases q : x = c
      · rw [q, fu_self]
      · rw [fu_ne _ _ q]; exact hg x (by omega))
    refine ⟨g', h1, ?_⟩
    rw [← h2]
    generalize hR : fR_init_268 f = R
    unfold fR_init_268
    generalize fR_init_289 zF = R2
    rw [hR, if_neg (by rw [show (8 : Int32) = nI 8 from rfl, nI_leI (by decide) (by omega)]; omega), rf_6 h, Option.bind_some, rs_4 h (by omega), Option.bind_some, uI_uI, rI_uI, if_pos ⟨rfl, rfl, rfl⟩, nI_1]
theorem uI_id (t : pS) (k i s : Nat) : uI t k i s (rI t k i s) = t := by
  have : up3 t.2.2.1 k i s (rI t k i s) = t.2.2.1 := by
    funext k' i' s'
    unfold up3
    by_cases q : k' = k ∧ i' = i ∧ s' = s
    · rw [if_pos q, q.1, q.2.1, q.2.2]; rfl
    · rw [if_neg q]
  unfold uI
  rw [this]
theorem fR_init_263_eq (h : pRf e) (v : Int32) : ∃ g g', (∀ x, x < 8 → g x = -1) ∧ (∀ x, x < 16 → g' x = -1) ∧ fR_init_263 (pv e t) n (pL e 6 0 0) (some (pL e 6 0 0)) v = some (.inl none, pv e (uI (uI (wI t 6 0 0 v) 6 0 4 g) 6 0 15 g'), n) := by
  obtain ⟨g, h1, h2⟩ := fR_init_268_eq (n := n) (t := wI t 6 0 0 v) h 8 0 (rI (wI t 6 0 0 v) 6 0 4) zF (by omega) (zF_big (by omega)) (fun x hx => by omega)
  obtain ⟨g', h3, h4⟩ := fR_init_289_eq (n := n) (t := uI (wI t 6 0 0 v) 6 0 4 g) h 16 0 (rI (uI (wI t 6 0 0 v) 6 0 4 g) 6 0 15) zF (by omega) (zF_big (by omega)) (fun x hx => by omega)
  refine ⟨g, g', h1, h3, ?_⟩
  rw [uI_id] at h2 h4
  have h2' : fR_init_268 zF (pv e (wI t 6 0 0 v)) n (pL e 6 0 0) 0 = _ := h2
  have h4' : fR_init_289 zF (pv e (uI (wI t 6 0 0 v) 6 0 4 g)) n (pL e 6 0 0) 0 = _ := h4
  rw [← h4', ← h2']
  unfold fR_init_263
  generalize fR_init_268 zF = R
  rw [pf_6_0 h.1 (h.2.1 0 (by omega)), Option.bind_some]
end PB
