/-! the invariants are kept: a mark begins; play -/
section PI
variable {s : zSt}
def nmS (s : zSt) : zSt := posS (u_M (u_tol s true) (s_M s + 1)) (s_M s) (s_C s)
theorem nm_NK (hF : FrM s) (x : Nat) : NKs (nmS s) x = NKs s x ++ [s_M s] := by
  unfold NKs nmS
  rw [z_posS_M, su_M, z_posS_cond, y_cond_M, y_cond_tol, z_posS_kept, y_kept_M, y_kept_tol, List.range_succ, List.filter_append]
  congr 1
  rw [List.filter_cons_of_pos (by rw [hF.1, (hF.2.1 x).1]; rfl)]
  rfl
theorem nm_due (hF : FrM s) (c : Nat) : dueS (nmS s) c = dueS s c ++ [s_M s] := dueS_new hF c _
theorem nm_pos : s_pos (nmS s) = fun a b => if a = s_M s ∧ b < s_C s then (s_log s b).length else s_pos s a b := by
  unfold nmS
  rw [z_posS_pos, y_log_M, y_log_tol, y_pos_M, y_pos_tol]
theorem nm_kp (hF : FrM s) : kp (nmS s) = kp s := by
  unfold kp nmS
  rw [z_posS_M, su_M, z_posS_N, y_N_M, y_N_tol, z_posS_kept, y_kept_M, y_kept_tol, List.range_succ, List.map_append, List.sum_append]
  have : (List.range (s_N s)).filter (fun x => s_kept s (s_M s) x) = [] := List.filter_eq_nil_iff.mpr fun x _ => by rw [(hF.2.1 x).1]; decide
  rw [List.map_cons, this]
  rfl
theorem Iv.nm (h : Iv s) (hb : begunS s < 3) (hM : s_M s < 40) : Iv (nmS s) := by
  have hFM := h.frM
  obtain ⟨w, hO, hK, hQ, hT, hF, hP, hE, hR, hH, hbg⟩ := h
  have wq : Wf (nmS s) := Wf.wpos ((w.utol (b := true)).uM (by rw [y_M_tol]; exact hM))
  refine ⟨wq, fun j hj hej => ?_, ?_, hQ, fun hz => ?_, ⟨hF.1, fun m' hm' => ?_⟩, fun c' hc' => ?_, hE, hR, hH, ?_⟩
  · have hj' : j < s_C s := hj
    obtain ⟨o1, o2⟩ := hO j hj' hej
    show PcS (nmS s) j <+: NKs (nmS s) (s_to s j) ∧ (live s j → PcS (nmS s) j = NKs (nmS s) (s_to s j))
    rw [nm_NK hFM]
    by_cases hl : live s j
    · have e1 : PcS (nmS s) j = PcS s j ++ [s_M s] := by
        have e2 : restS (nmS s) j = restS s j ++ [s_M s] := by
          unfold restS
          show (if s_over s j = true then [] else match s_fr s j with | none => dueS (nmS s) j | some k => if s_ended s k = true then [] else NKs (nmS s) k) = (if s_over s j = true then [] else match s_fr s j with | none => dueS s j | some k => if s_ended s k = true then [] else NKs s k) ++ [s_M s]
          rw [hl.1]
          cases hf : s_fr s j with
          | none => exact nm_due hFM j
          | some k =>
            show (if s_ended s k = true then [] else NKs (nmS s) k) = (if s_ended s k = true then [] else NKs s k) ++ [s_M s]
            rw [hl.2 k hf]
            exact nm_NK hFM k
        unfold PcS
        rw [e2, ← List.append_assoc, ← List.append_assoc, ← List.append_assoc]
        rfl
      rw [e1, o2 hl]
      exact ⟨List.prefix_refl _, fun _ => rfl⟩
    · have e1 : PcS (nmS s) j = PcS s j := by
        have e2 : restS (nmS s) j = restS s j := by
          unfold restS
          show (if s_over s j = true then [] else match s_fr s j with | none => dueS (nmS s) j | some k => if s_ended s k = true then [] else NKs (nmS s) k) = (if s_over s j = true then [] else match s_fr s j with | none => dueS s j | some k => if s_ended s k = true then [] else NKs s k)
          cases ho : s_over s j with
          | true => rfl
          | false =>
            cases hf : s_fr s j with
            | none => exact absurd ⟨ho, fun k hk => by rw [hf] at hk; cases hk⟩ hl
            | some k =>
              show (if s_ended s k = true then [] else NKs (nmS s) k) = (if s_ended s k = true then [] else NKs s k)
              cases hek : s_ended s k with
              | true => rfl
              | false => exact absurd ⟨ho, fun k' hk' => by rw [hf] at hk'; cases hk'; exact hek⟩ hl
        unfold PcS
        rw [e2]
        rfl
      rw [e1]
      exact ⟨o1.trans (List.prefix_append _ _), fun z => absurd z hl⟩
  · unfold IvK
    rw [nm_kp hFM]
    exact hK
  · have hz' : true = false := hz
    cases hz'
  · have hm2 : s_M s + 1 ≤ m' := hm'
    exact hF.2 m' (by omega)
  · have hc2 : c' < s_C s := hc'
    obtain ⟨p1, p2, p3⟩ := hP c' hc2
    rw [nm_pos]
    show (∀ m m', m ≤ m' → m' < s_M s + 1 → (if m = s_M s ∧ c' < s_C s then (s_log s c').length else s_pos s m c') ≤ (if m' = s_M s ∧ c' < s_C s then (s_log s c').length else s_pos s m' c')) ∧ (∀ m, m < s_M s + 1 → (if m = s_M s ∧ c' < s_C s then (s_log s c').length else s_pos s m c') ≤ (s_log s c').length) ∧ (∀ m, m ∈ dueS (nmS s) c' → s_stand s c' ≤ (if m = s_M s ∧ c' < s_C s then (s_log s c').length else s_pos s m c'))
    refine ⟨fun m m' hmm hm' => ?_, fun m hm => ?_, fun m hm => ?_⟩
    · by_cases q : m = s_M s
      · rw [if_pos ⟨q, hc2⟩, if_pos ⟨by omega, hc2⟩]; exact Nat.le_refl _
      · rw [if_neg (fun z => q z.1)]
        by_cases q' : m' = s_M s
        · rw [if_pos ⟨q', hc2⟩]; exact p2 m (by omega)
        · rw [if_neg (fun z => q' z.1)]; exact p1 m m' hmm (by omega)
    · by_cases q : m = s_M s
      · rw [if_pos ⟨q, hc2⟩]; exact Nat.le_refl _
      · rw [if_neg (fun z => q z.1)]; exact p2 m (by omega)
    · by_cases q : m = s_M s
      · rw [if_pos ⟨q, hc2⟩]; exact w.stand c'
      · rw [if_neg (fun z => q z.1)]
        rw [nm_due hFM] at hm
        rcases List.mem_append.mp hm with hm | hm
        · exact p3 m hm
        · exact absurd (List.mem_singleton.mp hm) q
  · have := begunS_inc (s := s) hFM.1
    have e1 : begunS (nmS s) = begunS (u_M (u_tol s true) (s_M s + 1)) := by
      unfold begunS nmS
      rw [z_posS_M, z_posS_cond]
    omega
theorem kM_kept (s : zSt) (m : Nat) : ∀ k x, k ≤ x → s_kept (keepM m k s) m x = s_kept s m x := by
  intro k
  induction k with
  | zero => intro x _; rfl
  | succ k ih =>
    intro x hx
    rw [keepM_s]
    split
    · rw [z_keepS_kept, fu2_self, fu_ne _ _ (by omega)]; exact ih x (by omega)
    · exact ih x (by omega)
theorem Iv.kM (h : Iv s) {m : Nat} (hm : m < s_M s) (hk : ∀ x, s_kept s m x = false) : ∀ k, k ≤ s_N s → Iv (keepM m k s) := by
  intro k
  induction k with
  | zero => intro _; exact h
  | succ k ih =>
    intro hkN
    have h1 := ih (by omega)
    rw [keepM_s]
    by_cases q : s_ended (keepM m k s) k = true ∨ hasIn (keepM m k s) k = false
    · rw [if_pos q]
      exact h1.keepE (by rw [kM_M]; exact hm) (by rw [kM_N]; omega) (by rw [kM_kept s m k k (Nat.le_refl _)]; exact hk k) q
    · rw [if_neg q]; exact h1
theorem Iv.mark (h : Iv s) (hb : begunS s < 3) (hM : s_M s < 40) : Iv (markS s) := by
  have hFM := h.frM
  have h1 := h.nm hb hM
  have e1 : markS s = keepM (s_M s) (s_N s) (nmS s) := rfl
  rw [e1]
  exact h1.kM (by show s_M s < s_M s + 1; omega) (fun x => (hFM.2.1 x).1) (s_N s) (Nat.le_refl _)
theorem Iv.step (h : Iv s) (x : Int64) : Iv (stepS s x).2 := by
  unfold stepS
  by_cases q : plK x % (s_N s + 1) = s_N s
  · rw [if_pos q]; exact h.keeper
  · rw [if_neg q]
    have : plK x % (s_N s + 1) < s_N s + 1 := Nat.mod_lt _ (by omega)
    exact h.go (by omega)
end PI
