/-! INVARIANTS of the mathematical state -/
/-- the marks of the barriers in a line, in order -/
def bars (l : List (Nat × Int64)) : List Nat := (l.filter fun z => z.1 == 1).map fun z => z.2.toInt32.toNatClampNeg
/-- the barriers that are still to come into a channel -/
def restS (s : zSt) (c : Nat) : List Nat := if s_over s c then [] else match s_fr s c with
  | none => dueS s c
  | some k => if s_ended s k then [] else NKs s k
/-- all barriers that a channel's task has still to take from it, and the one for which it is held -/
def PcS (s : zSt) (c : Nat) : List Nat := (s_held s c).toList ++ (bars (s_q s c) ++ restS s c)
def live (s : zSt) (c : Nat) : Prop := s_over s c = false ∧ ∀ k, s_fr s c = some k → s_ended s k = false
def IvO (s : zSt) : Prop := ∀ c, c < s_C s → s_ended s (s_to s c) = false → (PcS s c <+: NKs s (s_to s c)) ∧ (live s c → PcS s c = NKs s (s_to s c))
/-- the pairs of mark and task that are kept -/
def kp (s : zSt) : Nat := ((List.range (s_M s)).map fun m => ((List.range (s_N s)).filter fun x => s_kept s m x).length).sum
def IvK (s : zSt) : Prop := (s_acks s).length ≤ 200 + kp s
def IvQ (s : zSt) : Prop := ∀ c k, c < s_C s → s_fr s c = some k → (s_q s c).length ≤ (if s_ended s k then 9 else 8)
def IvT (s : zSt) : Prop := s_tol s = false → s_M s = 0 ∧ (∀ c, s_log s c = [] ∧ s_fin s c = false ∧ s_q s c = [] ∧ s_stand s c = 0 ∧ s_over s c = false ∧ s_held s c = none) ∧ (∀ x, s_latest s x = none ∧ s_ended s x = false) ∧ s_acks s = []
def IvF (s : zSt) : Prop := (∀ c, s_C s ≤ c → s_q s c = [] ∧ s_log s c = [] ∧ s_fin s c = false ∧ s_stand s c = 0 ∧ s_over s c = false ∧ s_held s c = none) ∧ (∀ m, s_M s ≤ m → s_cond s m = 0 ∧ (∀ x, s_kept s m x = false ∧ s_fails s m x = false ∧ s_taken s m x = false ∧ s_kSum s m x = 0 ∧ s_kRows s m x = 0 ∧ s_kEnd s m x = false) ∧ ∀ c, s_came s m c = false)
def IvP (s : zSt) : Prop := ∀ c, c < s_C s → (∀ m m', m ≤ m' → m' < s_M s → s_pos s m c ≤ s_pos s m' c) ∧ (∀ m, m < s_M s → s_pos s m c ≤ (s_log s c).length) ∧ (∀ m, m ∈ dueS s c → s_stand s c ≤ s_pos s m c)
def IvE (s : zSt) : Prop := ∀ c k, c < s_C s → s_fr s c = some k → ((∀ z, z ∈ (s_q s c).dropLast → z.1 ≠ 2) ∧ (∀ z, z ∈ s_q s c → z.1 = 2 → s_ended s k = true)) ∧ (s_over s c = true → s_ended s (s_to s c) = false → s_q s c = [] ∧ s_ended s k = true)
def IvR (s : zSt) : Prop := ∃ r : Nat → Nat, ∀ c k, c < s_C s → s_fr s c = some k → r k < r (s_to s c)
def IvH (s : zSt) : Prop := ∀ c k, c < s_C s → s_fr s c = some k → hasIn s k = true
def Iv (s : zSt) : Prop := Wf s ∧ IvO s ∧ IvK s ∧ IvQ s ∧ IvT s ∧ IvF s ∧ IvP s ∧ IvE s ∧ IvR s ∧ IvH s ∧ begunS s ≤ 3
section PI
variable {s : zSt}
theorem mem_NKs {x m : Nat} : m ∈ NKs s x ↔ m < s_M s ∧ s_cond s m = 0 ∧ s_kept s m x = false := by
  unfold NKs
  rw [List.mem_filter, List.mem_range, Bool.and_eq_true, beq_iff_eq, Bool.not_eq_true']
theorem mem_dueS {c m : Nat} : m ∈ dueS s c ↔ m < s_M s ∧ s_cond s m = 0 ∧ s_came s m c = false := by
  unfold dueS
  rw [List.mem_filter, List.mem_range, Bool.and_eq_true, beq_iff_eq, Bool.not_eq_true']
theorem dueS_sorted (s : zSt) (c : Nat) : (dueS s c).Pairwise (· < ·) := List.Pairwise.sublist (List.filter_sublist) (List.pairwise_lt_range)
theorem NKs_sorted (s : zSt) (x : Nat) : (NKs s x).Pairwise (· < ·) := List.Pairwise.sublist (List.filter_sublist) (List.pairwise_lt_range)
theorem IvP.due (h : IvP s) {c : Nat} (hc : c < s_C s) : DueOk s c := by
  intro d r hd
  obtain ⟨h1, h2, h3⟩ := h c hc
  refine ⟨h3 d (by rw [hd]; exact List.mem_cons_self), fun m hm => ?_⟩
  have hs := dueS_sorted s c
  rw [hd] at hs
  have hlt := (List.pairwise_cons.mp hs).1 m hm
  have hmM := (mem_dueS.mp (show m ∈ dueS s c by rw [hd]; exact List.mem_cons_of_mem _ hm)).1
  exact h1 d m (by omega) hmM
/-- the mark for which a channel is held is the first that its task has to keep -/
theorem IvO.head (h : IvO s) {c m : Nat} (hc : c < s_C s) (he : s_ended s (s_to s c) = false) (hh : s_held s c = some m) : (NKs s (s_to s c)).head? = some m := by
  have h1 := (h c hc he).1
  unfold PcS at h1
  rw [hh] at h1
  obtain ⟨r, hr⟩ := h1
  rw [← hr]
  rfl
theorem IvO.one (h : IvO s) {x : Nat} (he : s_ended s x = false) : OneM s x := by
  intro c c' m m' hc hc' ht ht' hh hh'
  have h1 := h.head hc (by rw [ht]; exact he) hh
  have h2 := h.head hc' (by rw [ht']; exact he) hh'
  rw [ht] at h1
  rw [ht', h1] at h2
  exact Option.some.inj h2
theorem IvO.held (h : IvO s) {x m : Nat} (he : s_ended s x = false) (hh : heldS s x = some m) : m ∈ NKs s x := by
  obtain ⟨c, hc, hm⟩ := List.exists_of_findSome?_eq_some hh
  obtain ⟨h1, h2⟩ := mem_ins.mp hc
  have h3 := h.head h1 (by rw [h2]; exact he) hm
  rw [h2] at h3
  exact List.mem_of_mem_head? h3
theorem begun_NK (s : zSt) (x : Nat) : (NKs s x).length ≤ begunS s := by
  unfold NKs begunS
  have : (List.range (s_M s)).filter (fun m => s_cond s m == 0 && !s_kept s m x) = ((List.range (s_M s)).filter (fun m => s_cond s m == 0)).filter (fun m => !s_kept s m x) := by
    rw [List.filter_filter]
    refine List.filter_congr fun m _ => Bool.and_comm _ _
  rw [this]
  exact List.length_filter_le _ _
end PI
