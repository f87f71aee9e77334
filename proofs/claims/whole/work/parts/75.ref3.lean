/-! the reference's counting and looking methods -/
section PM
variable {e : pE} {t : pS} {s : zSt} {n : Nat}
theorem nI_mul8 (m x : Nat) : (8 : Int32) * nI m + nI x = nI (8 * m + x) := by
  rw [show (8 : Int32) = nI 8 from rfl, pk_mul, nI_add]
theorem nI_mul16 (m x : Nat) : (16 : Int32) * nI m + nI x = nI (16 * m + x) := by
  rw [show (16 : Int32) = nI 16 from rfl, pk_mul, nI_add]
theorem nI_mul16' (m : Nat) : (16 : Int32) * nI m = nI (16 * m) := by
  rw [show (16 : Int32) = nI 16 from rfl, pk_mul]
theorem nI_eq0 {a : Nat} (h : a < 2 ^ 31) : nI a = 0 ↔ a = 0 := by
  rw [show (0 : Int32) = nI 0 from rfl]; exact nI_eq h (by decide)
theorem o2i_m1 {x : Option Nat} (h : ∀ k, x = some k → k < 2 ^ 31) : o2i x = -1 ↔ x = none := by
  cases x with
  | none => simp [o2i]
  | some k =>
    have hk := h k rfl
    constructor
    · intro q
      have e1 : (nI k).toInt = (k : Int) := nI_toInt hk
      have e2 : nI k = -1 := q
      rw [e2] at e1
      have : ((-1 : Int32)).toInt = -1 := by decide
      omega
    · intro q; cases q
theorem fR_begun_4_eq (h : pRf e) (M : Mod t s) (w : Wf s) : ∀ (d c k : Nat) (f : Nat), c + d = s_M s → d < f → fR_begun_4 f (pv e t) n (pL e 6 0 0) (nI k) (nI c) = some (.inl (some (.int (nI (k + ((List.range' c d).filter fun m => s_cond s m == 0).length)))), pv e t, n) := by
  intro d
  have hM := w.2.2.1
  induction d with
  | zero =>
    intro c k f hc hf
    obtain ⟨f, rfl⟩ : ∃ g, f = g + 1 := ⟨f - 1, by omega⟩
    unfold fR_begun_4
    rw [gf_6_19 (h.is (by omega)), M.1.2.2.2.1]
    simp only [Option.bind_some]
    rw [if_pos (nI_le (by omega) (by omega))]
    rfl
  | succ d ih =>
    intro c k f hc hf
    obtain ⟨f, rfl⟩ : ∃ g, f = g + 1 := ⟨f - 1, by omega⟩
    have hcd := (M.2.2.2.2.1 c (by omega)).1
    have hl : e.2.2.2 6 0 16 = 40 := h.len (by omega)
    unfold fR_begun_4
    rw [gf_6_19 (h.is (by omega)), M.1.2.2.2.1]
    simp only [Option.bind_some]
    rw [if_neg (nI_ge (by omega) (by omega)), gf_6_20 (h.is (by omega))]
    simp only [Option.bind_some]
    rw [ga_6_16 (h.is (by omega)) (by omega) (by omega), hcd]
    simp only [Option.bind_some]
    unfold fR_begun_27
    have hc2 := w.2.2.2.2.2.2.2.2.2.1 c
    rw [nI_1]
    by_cases hq : s_cond s c = 0
    · rw [if_pos ((nI_eq0 (by omega)).mpr hq), nI_1, ih (c + 1) (k + 1) f (by omega) (by omega), List.range'_succ, List.filter_cons_of_pos (by simp [hq])]
      simp only [List.length_cons]
      congr 5
      omega
    · rw [if_neg (fun q => hq ((nI_eq0 (by omega)).mp q)), show nI k + 0 = nI k from Int32.add_zero _, ih (c + 1) k f (by omega) (by omega), List.range'_succ, List.filter_cons_of_neg (by simp [hq])]
theorem fR_begun_eq (h : pRf e) (M : Mod t s) (w : Wf s) : fR_begun (pv e t) n (pL e 6 0 0) = some (.inl (some (.int (nI (begunS s)))), pv e t, n) := by
  unfold fR_begun begunS
  have := fR_begun_4_eq (n := n) h M w (s_M s) 0 0 zF (by omega) (zF_big (by have := w.2.2.1; omega))
  rw [List.range_eq_range', Nat.zero_add] at *
  exact this
theorem fR_count_4_eq (h : pRf e) (M : Mod t s) (w : Wf s) {m : Nat} (hm : m < 40) : ∀ (d c k : Nat) (f : Nat), c + d = s_N s → d < f → fR_count_4 f (pv e t) n (pL e 6 0 0) (nI m) (nI k) (nI c) = some (.inl (some (.int (nI (k + ((List.range' c d).filter fun x => s_taken s m x).length)))), pv e t, n) := by
  intro d
  have hN := w.1.2
  induction d with
  | zero =>
    intro c k f hc hf
    obtain ⟨f, rfl⟩ : ∃ g, f = g + 1 := ⟨f - 1, by omega⟩
    unfold fR_count_4
    rw [gf_6_0 (h.is (by omega)), M.1.1]
    simp only [Option.bind_some]
    rw [if_pos (nI_le (by omega) (by omega))]
    rfl
  | succ d ih =>
    intro c k f hc hf
    obtain ⟨f, rfl⟩ : ∃ g, f = g + 1 := ⟨f - 1, by omega⟩
    have hcd := ((M.2.2.2.2.1 m hm).2.2 c (by omega)).2.2.2
    have hl : e.2.2.2 6 0 24 = 320 := h.len (by omega)
    unfold fR_count_4
    rw [gf_6_0 (h.is (by omega)), M.1.1]
    simp only [Option.bind_some]
    rw [if_neg (nI_ge (by omega) (by omega)), gf_6_28 (h.is (by omega))]
    simp only [Option.bind_some]
    rw [nI_mul8, ga_6_24 (h.is (by omega)) (by omega) (by omega), hcd]
    simp only [Option.bind_some]
    unfold fR_count_32
    rw [nI_1]
    cases hq : s_taken s m c with
    | false =>
      rw [if_pos rfl, show nI k + 0 = nI k from Int32.add_zero _, ih (c + 1) k f (by omega) (by omega), List.range'_succ, List.filter_cons_of_neg (by simp [hq])]
    | true =>
      rw [if_neg (by decide), nI_1, ih (c + 1) (k + 1) f (by omega) (by omega), List.range'_succ, List.filter_cons_of_pos (by simp [hq])]
      simp only [List.length_cons]
      congr 5
      omega
theorem fR_count_eq (h : pRf e) (M : Mod t s) (w : Wf s) {m : Nat} (hm : m < 40) : fR_count (pv e t) n (pL e 6 0 0) (nI m) = some (.inl (some (.int (nI (countS s m)))), pv e t, n) := by
  unfold fR_count countS
  have := fR_count_4_eq (n := n) h M w hm (s_N s) 0 0 zF (by omega) (zF_big (by have := w.1.2; omega))
  rw [List.range_eq_range', Nat.zero_add] at *
  exact this
theorem fR_barrierOf_2_eq (h : pRf e) (M : Mod t s) (w : Wf s) {c : Nat} (hc : c < 16) : ∀ (d m : Nat) (f : Nat), m + d = s_M s → d < f → fR_barrierOf_2 f (pv e t) n (pL e 6 0 0) (nI c) (nI m) = some (.inl (some (.int (o2i ((List.range' m d).find? fun m => s_cond s m == 0 && !s_came s m c && s_pos s m c == s_stand s c)))), pv e t, n) := by
  intro d
  have hM := w.2.2.1
  induction d with
  | zero =>
    intro m f hm hf
    obtain ⟨f, rfl⟩ : ∃ g, f = g + 1 := ⟨f - 1, by omega⟩
    unfold fR_barrierOf_2
    rw [gf_6_19 (h.is (by omega)), M.1.2.2.2.1]
    simp only [Option.bind_some]
    rw [if_pos (nI_le (by omega) (by omega))]
    rfl
  | succ d ih =>
    intro m f hm hf
    obtain ⟨f, rfl⟩ : ∃ g, f = g + 1 := ⟨f - 1, by omega⟩
    obtain ⟨h1, h2, -⟩ := M.2.2.2.2.1 m (by omega)
    obtain ⟨h3, h4⟩ := h2 c hc
    have h3 := h3 (by omega)
    have h5 := (M.2.2.1 c hc).2.2.2.2.1
    have l16 : e.2.2.2 6 0 16 = 40 := h.len (by omega)
    have l17 : e.2.2.2 6 0 17 = 640 := h.len (by omega)
    have l18 : e.2.2.2 6 0 18 = 640 := h.len (by omega)
    have l13 : e.2.2.2 6 0 13 = 16 := h.len (by omega)
    have hc2 := w.2.2.2.2.2.2.2.2.2.1 m
    have hp2 := w.2.2.2.2.2.2.2.2.2.2.1 m c
    have hst := (w.2.2.2.2.1 c).2
    unfold fR_barrierOf_2 fR_barrierOf_55
    simp only [gf_6_19 (h.is (k := 0) (by omega)), M.1.2.2.2.1, Option.bind_some]
    rw [if_neg (nI_ge (by omega) (by omega))]
    simp only [gf_6_20 (h.is (k := 0) (by omega)), gf_6_22 (h.is (k := 0) (by omega)), gf_6_21 (h.is (k := 0) (by omega)), gf_6_16 (h.is (k := 0) (by omega)), Option.bind_some, nI_mul16]
    simp only [ga_6_16 (t := t) (h.is (k := 16) (by omega)) (show m < e.2.2.2 6 0 16 by omega) (by omega), ga_6_18 (t := t) (h.is (k := 18) (by omega)) (show 16 * m + c < e.2.2.2 6 0 18 by omega) (by omega), ga_6_17 (t := t) (h.is (k := 17) (by omega)) (show 16 * m + c < e.2.2.2 6 0 17 by omega) (by omega), ga_6_13 (t := t) (h.is (k := 13) (by omega)) (show c < e.2.2.2 6 0 13 by omega) (by omega), Option.bind_some, h1, h3, h4, h5, nI_1, ih (m + 1) f (by omega) (by omega)]
    rw [List.range'_succ, List.find?_cons]
    by_cases q1 : s_cond s m = 0
    · rw [if_pos ((nI_eq0 (by omega)).mpr q1)]
      cases q2 : s_came s m c with
      | true => simp [b2i, q1]
      | false =>
        rw [if_pos rfl]
        by_cases q3 : s_pos s m c = s_stand s c
        · rw [if_pos (by rw [q3])]
          simp [q1, q3]; rfl
        · rw [if_neg (fun q => q3 ((nI_eq (by omega) (by omega)).mp q))]
          simp [q1, q3]
    · rw [if_neg (fun q => q1 ((nI_eq0 (by omega)).mp q))]
      simp [q1]
theorem fR_barrierOf_eq (h : pRf e) (M : Mod t s) (w : Wf s) {c : Nat} (hc : c < 16) : fR_barrierOf (pv e t) n (pL e 6 0 0) (nI c) = some (.inl (some (.int (o2i (barS s c)))), pv e t, n) := by
  unfold fR_barrierOf barS
  have := fR_barrierOf_2_eq (n := n) h M w hc (s_M s) 0 zF (by omega) (zF_big (by have := w.2.2.1; omega))
  rw [List.range_eq_range']
  exact this
end PM
