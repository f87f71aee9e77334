/-! the invariants are kept: a task keeps a mark (small facts) -/
section PI
variable {s : zSt}
theorem kp_keep {m x : Nat} (hm : m < s_M s) (hx : x < s_N s) (hk : s_kept s m x = false) : kp (keepS s m x) = kp s + 1 := by
  unfold kp
  rw [z_keepS_M, z_keepS_N, z_keepS_kept]
  generalize s_M s = K at hm
  have hone : ((List.range (s_N s)).filter fun y => fu2 (s_kept s) m x true m y).length = ((List.range (s_N s)).filter fun y => s_kept s m y).length + 1 := by
    have e0 : (fun y => fu2 (s_kept s) m x true m y) = fu (s_kept s m) x true := fu2_self _ _ _ _
    rw [e0]
    generalize s_N s = N at hx
    induction N with
    | zero => omega
    | succ N ih =>
      rw [List.range_succ, List.filter_append, List.filter_append, List.length_append, List.length_append]
      by_cases q : x = N
      · have e1 : (List.range N).filter (fun j => fu (s_kept s m) x true j) = (List.range N).filter (fun j => s_kept s m j) := by
          refine List.filter_congr fun j hj => ?_
          rw [fu_ne _ _ (by have := List.mem_range.mp hj; omega)]
        rw [e1, ← q, List.filter_cons_of_pos (by rw [fu_self]), List.filter_cons_of_neg (by rw [hk]; decide)]
        rfl
      · have := ih (by omega)
        have e1 : [N].filter (fun j => fu (s_kept s m) x true j) = [N].filter (fun j => s_kept s m j) := by
          refine List.filter_congr fun j hj => ?_
          rw [List.mem_singleton.mp hj, fu_ne _ _ (fun z => q z.symm)]
        rw [e1]
        omega
  induction K with
  | zero => omega
  | succ K ih =>
    rw [List.range_succ, List.map_append, List.map_append, List.sum_append, List.sum_append]
    have e1 : ∀ f : Nat → Nat, (List.map f [K]).sum = f K := fun f => by simp
    rw [e1, e1]
    by_cases q : m = K
    · have e2 : (List.range K).map (fun j => ((List.range (s_N s)).filter fun y => fu2 (s_kept s) m x true j y).length) = (List.range K).map (fun j => ((List.range (s_N s)).filter fun y => s_kept s j y).length) := by
        refine List.map_congr_left fun j hj => ?_
        rw [fu2_ne _ _ _ (by have := List.mem_range.mp hj; omega)]
      rw [e2, ← q, hone]
      omega
    · have := ih (by omega)
      rw [fu2_ne _ _ _ (fun z => q z.symm)]
      omega
theorem IvK.keep (h : IvK s) {m x : Nat} (hm : m < s_M s) (hx : x < s_N s) (hk : s_kept s m x = false) : IvK (keepS s m x) := by
  unfold IvK at h ⊢
  rw [kp_keep hm hx hk, z_keepS_acks, List.length_append, List.length_singleton]
  omega
theorem NKs_keep_ne {m x y : Nat} (h : y ≠ x) : NKs (keepS s m x) y = NKs s y := by
  unfold NKs
  rw [z_keepS_M, z_keepS_cond, z_keepS_kept]
  refine List.filter_congr fun j _ => ?_
  show (s_cond s j == 0 && !(if j = m ∧ y = x then true else s_kept s j y)) = _
  rw [if_neg (fun z => h z.2)]
theorem NKs_keep {m x : Nat} : NKs (keepS s m x) x = (NKs s x).filter fun z => !(z == m) := by
  unfold NKs
  rw [z_keepS_M, z_keepS_cond, z_keepS_kept, List.filter_filter]
  refine List.filter_congr fun j _ => ?_
  show (s_cond s j == 0 && !(if j = m ∧ x = x then true else s_kept s j x)) = _
  by_cases q : j = m
  · rw [if_pos ⟨q, rfl⟩, q, beq_self_eq_true]; simp
  · rw [if_neg (fun z => q z.1), bqf q]; simp
end PI
