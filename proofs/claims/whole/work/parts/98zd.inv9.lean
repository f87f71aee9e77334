/-! barriers and queues: small facts for a task's turn -/
section PI
variable {s : zSt}
theorem bars_app (l l' : List (Nat × Int64)) : bars (l ++ l') = bars l ++ bars l' := by
  unfold bars
  rw [List.filter_append, List.map_append]
theorem bars_row {k : Nat} (v : Int64) (hk : k ≠ 1) : bars [(k, v)] = [] := bars_cons0 hk
theorem bars_bar {m : Nat} (hm : m < 2 ^ 31) : bars [(1, lN m)] = [m] := by
  rw [bars_cons1 rfl]
  show [(lN m).toInt32.toNatClampNeg] = [m]
  rw [lN_i, nI_clamp hm]
theorem giveS_qi {x k c : Nat} {v : Int64} (hc : c < s_C s) (hf : s_fr s c = some x) : s_q (giveS s x k v) c = s_q s c ++ [(k, v)] := by
  rw [z_giveS_q]
  exact if_pos ⟨hc, hf⟩
theorem giveS_qo {x k c : Nat} {v : Int64} (hf : s_fr s c ≠ some x) : s_q (giveS s x k v) c = s_q s c := by
  rw [z_giveS_q]
  exact if_neg (fun z => hf z.2)
theorem dropLast_tail {α : Type} {z y : α} {l : List α} (h : y ∈ l.dropLast) : y ∈ (z :: l).dropLast := by
  cases l with
  | nil => cases h
  | cons a l => exact List.mem_cons_of_mem _ h
theorem dropLast_app {α : Type} {l : List α} {z y : α} (h : y ∈ (l ++ [z]).dropLast) : y ∈ l := by
  rw [List.dropLast_concat] at h
  exact h
/-- no task has a channel to itself -/
theorem IvR.ne (h : IvR s) {c k : Nat} (hc : c < s_C s) (hf : s_fr s c = some k) : s_to s c ≠ k := by
  obtain ⟨r, hr⟩ := h
  intro z
  have := hr c k hc hf
  rw [z] at this
  omega
end PI
