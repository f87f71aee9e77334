/-! the invariants are kept: a mark is closed -/
section PI
variable {s : zSt}
theorem NKs_close {m how : Nat} (hh : how ≠ 0) (x : Nat) : NKs (closeS s m how) x = (NKs s x).filter fun z => !(z == m) := by
  unfold NKs
  rw [z_closeS_M, z_closeS_cond, z_closeS_kept, List.filter_filter]
  refine List.filter_congr fun j hj => ?_
  by_cases q : j = m
  · rw [q, fu_self, bqf hh, beq_self_eq_true]; simp
  · rw [fu_ne _ _ q, bqf q]; simp
theorem bars_cons1 {z : Nat × Int64} {l : List (Nat × Int64)} (h : z.1 = 1) : bars (z :: l) = z.2.toInt32.toNatClampNeg :: bars l := by
  unfold bars
  rw [List.filter_cons_of_pos (by rw [h]; rfl), List.map_cons]
theorem bars_cons0 {z : Nat × Int64} {l : List (Nat × Int64)} (h : z.1 ≠ 1) : bars (z :: l) = bars l := by
  unfold bars
  rw [List.filter_cons_of_neg (by rw [bqf h]; decide)]
theorem bars_filter {m : Nat} (hm : m < 2 ^ 31) : ∀ (l : List (Nat × Int64)), (∀ z, z ∈ l → z.1 = 1 → ∃ j, j < 2 ^ 31 ∧ z.2 = lN j) → bars (l.filter fun z => !isB m z) = (bars l).filter fun z => !(z == m) := by
  intro l
  induction l with
  | nil => intro _; rfl
  | cons z l ih =>
    intro h
    have ih2 := ih (fun y hy => h y (List.mem_cons_of_mem _ hy))
    by_cases q : z.1 = 1
    · obtain ⟨j, hj, hz⟩ := h z List.mem_cons_self q
      have e1 : z.2.toInt32.toNatClampNeg = j := by rw [hz, lN_i, nI_clamp hj]
      rw [bars_cons1 q, e1]
      by_cases r : j = m
      · rw [List.filter_cons_of_neg (by rw [isB_iff.mpr ⟨q, by rw [hz, r]⟩]; decide), List.filter_cons_of_neg (by rw [r, beq_self_eq_true]; decide)]
        exact ih2
      · have hb : isB m z = false := by
          cases hb : isB m z with
          | false => rfl
          | true => exact absurd ((lN_eq hj hm).mp (by rw [← hz]; exact (isB_iff.mp hb).2)) r
        rw [List.filter_cons_of_pos (by rw [hb]; rfl), List.filter_cons_of_pos (by rw [bqf r]; rfl), bars_cons1 q, e1, ih2]
    · have hb : isB m z = false := by
        cases hb : isB m z with
        | false => rfl
        | true => exact absurd (isB_iff.mp hb).1 q
      rw [List.filter_cons_of_pos (by rw [hb]; rfl), bars_cons0 q, bars_cons0 q]
      exact ih2
theorem closeS_q {m how c : Nat} (hc : c < s_C s) : s_q (closeS s m how) c = (s_q s c).filter fun z => !isB m z := by
  rw [z_closeS_q]
  exact if_pos hc
theorem closeS_held {m how c : Nat} (hc : c < s_C s) : (s_held (closeS s m how) c).toList = (s_held s c).toList.filter fun z => !(z == m) := by
  rw [z_closeS_held]
  show (if c < s_C s ∧ s_held s c = some m then none else s_held s c).toList = _
  cases hh : s_held s c with
  | none => rw [if_neg (fun z => by cases z.2)]; rfl
  | some j =>
    by_cases q : j = m
    · rw [if_pos ⟨hc, by rw [q]⟩, q]
      show [] = [m].filter _
      rw [List.filter_cons_of_neg (by rw [beq_self_eq_true]; decide)]
      rfl
    · rw [if_neg (fun z => q (Option.some.inj z.2))]
      show [j] = [j].filter _
      rw [List.filter_cons_of_pos (by rw [bqf q]; rfl)]
      rfl
theorem closeS_rest {m how : Nat} (hh : how ≠ 0) (c : Nat) : restS (closeS s m how) c = (restS s c).filter fun z => !(z == m) := by
  unfold restS
  rw [z_closeS_over, z_closeS_fr, z_closeS_ended]
  cases s_over s c with
  | true => rfl
  | false =>
    cases s_fr s c with
    | none => exact dueS_close hh c
    | some k =>
      show (if s_ended s k then [] else NKs (closeS s m how) k) = List.filter _ (if s_ended s k then [] else NKs s k)
      cases s_ended s k with
      | true => rfl
      | false => exact NKs_close hh k
theorem PcS_close (w : Wf s) {m how c : Nat} (hm : m < s_M s) (hh : how ≠ 0) (hc : c < s_C s) : PcS (closeS s m how) c = (PcS s c).filter fun z => !(z == m) := by
  have hM := w.M
  unfold PcS
  rw [closeS_held hc, closeS_q hc, closeS_rest hh, bars_filter (by omega) _ (fun z hz h1 => by obtain ⟨j, hj, e1⟩ := w.bar hz h1; exact ⟨j, by omega, e1⟩), List.filter_append, List.filter_append]
theorem IvO.close (h : IvO s) (w : Wf s) {m how : Nat} (hm : m < s_M s) (hh : how ≠ 0) : IvO (closeS s m how) := by
  intro c hc he
  rw [z_closeS_C] at hc
  rw [z_closeS_ended, z_closeS_to] at he
  obtain ⟨h1, h2⟩ := h c hc he
  rw [z_closeS_to, PcS_close w hm hh hc, NKs_close hh]
  refine ⟨h1.filter _, fun hl => ?_⟩
  unfold live at hl
  rw [z_closeS_over, z_closeS_fr, z_closeS_ended] at hl
  rw [h2 hl]
theorem dropLast_filter {α : Type} (p : α → Bool) (l : List α) {z : α} (h : z ∈ (l.filter p).dropLast) : z ∈ l.dropLast := by
  rcases List.eq_nil_or_concat l with rfl | ⟨l', a, rfl⟩
  · simp at h
  · rw [List.concat_eq_append] at *
    rw [List.dropLast_concat]
    rw [List.filter_append] at h
    by_cases q : p a = true
    · rw [List.filter_cons_of_pos q, List.filter_nil, List.dropLast_concat] at h
      exact (List.mem_filter.mp h).1
    · rw [List.filter_cons_of_neg q, List.filter_nil, List.append_nil] at h
      exact (List.mem_filter.mp ((List.dropLast_sublist _).subset h)).1
theorem Iv.close (h : Iv s) {m how : Nat} (hm : m < s_M s) (h0 : s_cond s m = 0) (hh : how ≠ 0) (hh2 : how ≤ 2) : Iv (closeS s m how) := by
  obtain ⟨w, hO, hK, hQ, hT, hF, hP, hE, hR, hH, hb⟩ := h
  have hkp : kp (closeS s m how) = kp s := by unfold kp; rw [z_closeS_M, z_closeS_N, z_closeS_kept]
  refine ⟨w.close hh2, hO.close w hm hh, ?_, fun c k hc hf => ?_, fun ht => ?_, ⟨fun c hc => ?_, fun m' hm' => ?_⟩, fun c hc => ?_, fun c k hc hf => ?_, ?_, fun c k hc hf => ?_, ?_⟩
  · unfold IvK
    rw [hkp, z_closeS_acks]
    exact hK
  · rw [z_closeS_C] at hc
    rw [z_closeS_fr] at hf
    rw [closeS_q hc, z_closeS_ended]
    exact Nat.le_trans (List.length_filter_le _ _) (hQ c k hc hf)
  · rw [z_closeS_tol] at ht
    have := (hT ht).1
    omega
  · rw [z_closeS_C] at hc
    have hqn : s_q (closeS s m how) c = s_q s c := by rw [z_closeS_q]; exact if_neg (by omega)
    have hhn : s_held (closeS s m how) c = s_held s c := by rw [z_closeS_held]; exact if_neg (fun z => by have := z.1; omega)
    rw [hqn, hhn, z_closeS_log, z_closeS_fin, z_closeS_stand, z_closeS_over]
    exact hF.1 c hc
  · rw [z_closeS_M] at hm'
    rw [z_closeS_cond, fu_ne _ _ (by omega), z_closeS_kept, z_closeS_fails, z_closeS_taken, z_closeS_kSum, z_closeS_kRows, z_closeS_kEnd, z_closeS_came]
    exact hF.2 m' hm'
  · rw [z_closeS_C] at hc
    rw [z_closeS_M, z_closeS_pos, z_closeS_log, z_closeS_stand, dueS_close hh]
    obtain ⟨p1, p2, p3⟩ := hP c hc
    exact ⟨p1, p2, fun j hj => p3 j (List.mem_filter.mp hj).1⟩
  · rw [z_closeS_C] at hc
    rw [z_closeS_fr] at hf
    rw [closeS_q hc, z_closeS_ended, z_closeS_over, z_closeS_to]
    obtain ⟨⟨e1, e2⟩, e3⟩ := hE c k hc hf
    refine ⟨⟨fun z hz => e1 z (dropLast_filter _ _ hz), fun z hz => e2 z (List.mem_filter.mp hz).1⟩, fun h1 h2 => ?_⟩
    obtain ⟨q1, q2⟩ := e3 h1 h2
    rw [q1]
    exact ⟨rfl, q2⟩
  · obtain ⟨r, hr⟩ := hR
    refine ⟨r, fun c k hc hf => ?_⟩
    rw [z_closeS_C] at hc
    rw [z_closeS_fr] at hf
    rw [z_closeS_to]
    exact hr c k hc hf
  · rw [z_closeS_C] at hc
    rw [z_closeS_fr] at hf
    have := hH c k hc hf
    unfold hasIn ins at this ⊢
    rw [z_closeS_C, z_closeS_to]
    exact this
  · have e1 : begunS (closeS s m how) = begunS (u_cond s (fu (s_cond s) m how)) := by unfold begunS; rw [z_closeS_M, z_closeS_cond, y_M_cond, su_cond]
    have := begunS_dec hm h0 hh
    omega
theorem Iv.gu (h : Iv s) (k : Nat) (hk : k ≤ s_M s) : Iv (giveUpTo k s) := by
  induction k with
  | zero => exact h
  | succ k ih =>
    rw [giveUpTo_s]
    by_cases q : s_cond (giveUpTo k s) k = 0
    · rw [if_pos q]; exact (ih (by omega)).close (by rw [gu_M]; omega) q (by omega) (by omega)
    · rw [if_neg q]; exact ih (by omega)
end PI
