/-! the invariants are kept: a task's turn -/
section PI
variable {s : zSt}
theorem nextS_lat (g : Nat → Option Nat) (c : Nat) : nextS (u_latest s g) c = nextS s c := by
  unfold nextS
  rw [y_over_latest, y_fr_latest, y_bar, y_stand_latest, y_log_latest, y_fin_latest, y_q_latest]
theorem takeS_0 {x c : Nat} (hn : nextS s c = some 0) (hcr : credit s x = true) (s2 : zSt) (hs2 : s2 = if s_fr s c = none then u_stand (u_latest s (fu (s_latest s) x (some c))) (fu (s_stand s) c (s_stand s c + 1)) else u_q (u_latest s (fu (s_latest s) x (some c))) (fu (s_q s) c (s_q s c).tail)) : ∃ v, takeS s x c = (1, giveS (u_sum (u_rows s2 (fu (s_rows s2) x (s_rows s2 x + 1))) (fu (s_sum s2) x (s_sum s2 x + v))) x 0 (3 * v + lN x)) := by
  refine ⟨if s_fr s c = none then (s_log s c).getD (s_stand s c) 0 else hdV (s_q s c), ?_⟩
  unfold takeS
  rw [hn]
  dsimp only
  rw [if_pos hcr, hs2]
  rfl
theorem credit_of {s' : zSt} {x : Nat} (h1 : s_C s' = s_C s) (h2 : s_fr s' = s_fr s) (h3 : ∀ c, (s_q s' c).length ≤ (s_q s c).length) (h : credit s x = true) : credit s' x = true := by
  unfold credit outs at h ⊢
  rw [h1, h2]
  refine List.all_eq_true.mpr fun c hc => ?_
  have := of_decide_eq_true (List.all_eq_true.mp h c hc)
  have := h3 c
  exact decide_eq_true (by omega)
theorem Iv.take (h : Iv s) {x c : Nat} (he : s_ended s x = false) (hc : c < s_C s) (hh : s_held s c = none) : Iv (takeS s x c).2 := by
  cases hn : nextS s c with
  | none =>
    have e1 : takeS s x c = (0, s) := by unfold takeS; rw [hn]
    rw [e1]
    exact h
  | some k =>
    have ht := h.told hn
    have w := h.1
    have hk2 := nextS_le w hn
    have h1 : Iv (u_latest s (fu (s_latest s) x (some c))) := h.ulatest ht hc
    have hn1 : nextS (u_latest s (fu (s_latest s) x (some c))) c = some k := by rw [nextS_lat]; exact hn
    match k, hk2 with
    | 0, _ =>
      cases hcr : credit s x with
      | false =>
        have e1 : takeS s x c = (0, s) := by unfold takeS; rw [hn]; dsimp only; rw [hcr]; rfl
        rw [e1]
        exact h
      | true =>
        have key : ∀ s2, Iv s2 → s_tol s2 = true → s_ended s2 x = false → credit s2 x = true → ∀ v, Iv (giveS (u_sum (u_rows s2 (fu (s_rows s2) x (s_rows s2 x + 1))) (fu (s_sum s2) x (s_sum s2 x + v))) x 0 (3 * v + lN x)) := fun s2 i2 t2 e2 c2 v => by
          refine (i2.urow (f := fu (s_rows s2) x (s_rows s2 x + 1)) (g := fu (s_sum s2) x (s_sum s2 x + v))).giveRow ?_ ?_ ?_
          · rw [y_tol_sum, y_tol_rows]; exact t2
          · rw [y_ended_sum, y_ended_rows]; exact e2
          · exact credit_of (by rw [y_C_sum, y_C_rows]) (by rw [y_fr_sum, y_fr_rows]) (fun c => by rw [y_q_sum, y_q_rows]; exact Nat.le_refl _) c2
        cases hf : s_fr s c with
        | none =>
          obtain ⟨v, hv⟩ := takeS_0 hn hcr (u_stand (u_latest s (fu (s_latest s) x (some c))) (fu (s_stand s) c (s_stand s c + 1))) (by rw [if_pos hf])
          rw [hv]
          have i2 := h1.ustand (c := c) (by rw [y_C_latest]; exact hc) (by rw [y_fr_latest]; exact hf) hn1
          rw [y_stand_latest] at i2
          refine key _ i2 ?_ ?_ ?_ v
          · rw [y_tol_stand, y_tol_latest]; exact ht
          · rw [y_ended_stand, y_ended_latest]; exact he
          · exact credit_of (by rw [y_C_stand, y_C_latest]) (by rw [y_fr_stand, y_fr_latest]) (fun c => by rw [y_q_stand, y_q_latest]; exact Nat.le_refl _) hcr
        | some j =>
          obtain ⟨v, hv⟩ := takeS_0 hn hcr (u_q (u_latest s (fu (s_latest s) x (some c))) (fu (s_q s) c (s_q s c).tail)) (by rw [if_neg (by rw [hf]; intro q; cases q)])
          rw [hv]
          have i2 := h1.lrow (c := c) (k := j) (by rw [y_C_latest]; exact hc) (by rw [y_fr_latest]; exact hf) hn1
          rw [y_q_latest] at i2
          refine key _ i2 ?_ ?_ ?_ v
          · rw [y_tol_q, y_tol_latest]; exact ht
          · rw [y_ended_q, y_ended_latest]; exact he
          · refine credit_of (by rw [y_C_q, y_C_latest]) (by rw [y_fr_q, y_fr_latest]) (fun c' => ?_) hcr
            rw [su_q]
            by_cases q : c' = c
            · rw [q, fu_self, List.length_tail]; omega
            · rw [fu_ne _ _ q]; exact Nat.le_refl _
    | 1, _ =>
      cases hf : s_fr s c with
      | none =>
        obtain ⟨m, hm⟩ := bar_of hf hn
        rw [takeS_1s hn hf hm]
        have i2 := h1.sbar (c := c) (m := m) (by rw [y_C_latest]; exact hc) (by rw [y_fr_latest]; exact hf) (by rw [y_held_latest]; exact hh) hn1 (by rw [y_bar]; exact hm)
        rw [y_came_latest, y_held_latest] at i2
        exact i2
      | some j =>
        obtain ⟨z, l, hl, hz⟩ := head_of hf hn
        obtain ⟨m, hm, hz2⟩ := w.bar (c := c) (z := z) (by rw [hl]; exact List.mem_cons_self) hz
        have hM := w.M
        rw [takeS_1l (m := m) hn hf (by rw [hl]; show z.2.toInt32.toNatClampNeg = m; rw [hz2, lN_i, nI_clamp (by omega)])]
        have i2 := h1.lbar (c := c) (k := j) (m := m) (z := z) (l := l) (by rw [y_C_latest]; exact hc) (by rw [y_fr_latest]; exact hf) (by rw [y_held_latest]; exact hh) hn1 (by rw [y_q_latest]; exact hl) hz hz2 (by rw [y_M_latest]; exact hm)
        rw [y_q_latest, y_held_latest] at i2
        exact i2
    | 2, _ =>
      cases hf : s_fr s c with
      | none =>
        rw [takeS_2s hn hf]
        have i2 := h1.send_over (c := c) (by rw [y_C_latest]; exact hc) (by rw [y_held_latest]; exact hh) (by rw [y_fr_latest]; exact hf) hn1
        rw [y_over_latest] at i2
        exact i2
      | some j =>
        rw [takeS_2l hn hf]
        have i2 := h1.lend (c := c) (k := j) (by rw [y_C_latest]; exact hc) (by rw [y_fr_latest]; exact hf) (by rw [y_held_latest]; exact hh) hn1
        rw [y_q_latest, y_over_latest] at i2
        exact i2
theorem Iv.go (h : Iv s) {x : Nat} (hx : x < s_N s) : Iv (goS s x).2 := by
  cases he : s_ended s x with
  | true =>
    have e1 : goS s x = (0, s) := by unfold goS; rw [if_pos (Or.inl he)]
    rw [e1]; exact h
  | false =>
    cases hi : hasIn s x with
    | false =>
      have e1 : goS s x = (0, s) := by unfold goS; rw [if_pos (Or.inr hi)]
      rw [e1]; exact h
    | true =>
      cases hall : (ins s x).all (fun c => (s_held s c).isSome || s_over s c) with
      | true =>
        cases hh : heldS s x with
        | some m =>
          rw [goS_k he hi hall hh]
          cases hcr : credit s x with
          | false => exact h
          | true =>
            rw [if_pos rfl]
            obtain ⟨hmM, hm0, hmk⟩ := mem_NKs.mp (h.2.1.held he hh)
            cases hfl : s_fails s m x with
            | true => exact h.close hmM hm0 (by omega) (by omega)
            | false => exact h.kg hx he hall hh hcr
        | none =>
          have e1 : goS s x = (6, keepAll x (s_M s) (enS s x)) := by
            unfold goS
            rw [if_neg (by simp [he, hi]), if_pos hall, hh]
            unfold enS
            dsimp only
            rw [z_giveS_ended]
          rw [e1]
          have ht : s_tol s = true := by
            cases ht : s_tol s with
            | true => rfl
            | false =>
              obtain ⟨t1, t2, t3, t4⟩ := h.2.2.2.2.1 ht
              cases hl : ins s x with
              | nil => unfold hasIn at hi; rw [hl] at hi; cases hi
              | cons a l =>
                have h5 := List.all_eq_true.mp hall a (by rw [hl]; exact List.mem_cons_self)
                obtain ⟨c1, c2, c3, c4, c5, c6⟩ := t2 a
                rw [c5, c6] at h5
                cases h5
          have h2 := h.en ht he
          exact h2.kA hx (by show fu (s_ended s) x true x = true; rw [fu_self]) (s_M s) (Nat.le_refl _)
      | false =>
        have e1 : goS s x = pickT s x (pickS s x) := by
          unfold goS
          rw [if_neg (by simp [he, hi]), if_neg (by rw [hall]; decide)]
          rfl
        rw [e1]
        cases hp : pickS s x with
        | none => exact h
        | some c =>
          show Iv (takeS s x c).2
          unfold pickS at hp
          have h1 := List.find?_some hp
          have h2 := List.mem_of_find?_eq_some hp
          obtain ⟨k, hk, hk2⟩ := List.mem_map.mp h2
          have hC : 0 < s_C s := by have := List.mem_range.mp hk; omega
          have hc : c < s_C s := by rw [← hk2]; exact Nat.mod_lt _ hC
          rw [Bool.and_eq_true, Bool.and_eq_true] at h1
          exact h.take he hc (Option.isNone_iff_eq_none.mp h1.1.2)
end PI
