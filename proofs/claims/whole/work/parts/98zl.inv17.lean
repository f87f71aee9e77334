/-! the invariants are kept: a task keeps a mark, sends its barrier on and lets its channels go -/
section PI
variable {s : zSt}
theorem NKs_of {s' : zSt} (h1 : s_M s' = s_M s) (h2 : s_cond s' = s_cond s) (h3 : s_kept s' = s_kept s) : NKs s' = NKs s := by
  funext x
  unfold NKs
  rw [h1, h2, h3]
theorem dueS_of {s' : zSt} (h1 : s_M s' = s_M s) (h2 : s_cond s' = s_cond s) (h3 : s_came s' = s_came s) : dueS s' = dueS s := by
  funext x
  unfold dueS
  rw [h1, h2, h3]
def kgS (s : zSt) (m x : Nat) : zSt := letGoS (giveS (keepS s m x) x 1 (lN m)) x (s_C s)
theorem kg_M (m x : Nat) : s_M (kgS s m x) = s_M s := by unfold kgS; rw [z_letGoS_M, z_giveS_M, z_keepS_M]
theorem kg_N (m x : Nat) : s_N (kgS s m x) = s_N s := by unfold kgS; rw [z_letGoS_N, z_giveS_N, z_keepS_N]
theorem kg_C (m x : Nat) : s_C (kgS s m x) = s_C s := by unfold kgS; rw [z_letGoS_C, z_giveS_C, z_keepS_C]
theorem kg_fr (m x : Nat) : s_fr (kgS s m x) = s_fr s := by unfold kgS; rw [z_letGoS_fr, z_giveS_fr, z_keepS_fr]
theorem kg_to (m x : Nat) : s_to (kgS s m x) = s_to s := by unfold kgS; rw [z_letGoS_to, z_giveS_to, z_keepS_to]
theorem kg_tol (m x : Nat) : s_tol (kgS s m x) = s_tol s := by unfold kgS; rw [z_letGoS_tol, z_giveS_tol, z_keepS_tol]
theorem kg_ended (m x : Nat) : s_ended (kgS s m x) = s_ended s := by unfold kgS; rw [z_letGoS_ended, z_giveS_ended, z_keepS_ended]
theorem kg_over (m x : Nat) : s_over (kgS s m x) = s_over s := by unfold kgS; rw [z_letGoS_over, z_giveS_over, z_keepS_over]
theorem kg_log (m x : Nat) : s_log (kgS s m x) = s_log s := by unfold kgS; rw [z_letGoS_log, z_giveS_log, z_keepS_log]
theorem kg_fin (m x : Nat) : s_fin (kgS s m x) = s_fin s := by unfold kgS; rw [z_letGoS_fin, z_giveS_fin, z_keepS_fin]
theorem kg_stand (m x : Nat) : s_stand (kgS s m x) = s_stand s := by unfold kgS; rw [z_letGoS_stand, z_giveS_stand, z_keepS_stand]
theorem kg_pos (m x : Nat) : s_pos (kgS s m x) = s_pos s := by unfold kgS; rw [z_letGoS_pos, z_giveS_pos, z_keepS_pos]
theorem kg_cond (m x : Nat) : s_cond (kgS s m x) = s_cond s := by unfold kgS; rw [z_letGoS_cond, z_giveS_cond, z_keepS_cond]
theorem kg_came (m x : Nat) : s_came (kgS s m x) = s_came s := by unfold kgS; rw [z_letGoS_came, z_giveS_came, z_keepS_came]
theorem kg_fails (m x : Nat) : s_fails (kgS s m x) = s_fails s := by unfold kgS; rw [z_letGoS_fails, z_giveS_fails, z_keepS_fails]
theorem kg_taken (m x : Nat) : s_taken (kgS s m x) = s_taken s := by unfold kgS; rw [z_letGoS_taken, z_giveS_taken, z_keepS_taken]
theorem kg_kept (m x : Nat) : s_kept (kgS s m x) = fu2 (s_kept s) m x true := by unfold kgS; rw [z_letGoS_kept, z_giveS_kept, z_keepS_kept]
theorem kg_kEnd (m x : Nat) : s_kEnd (kgS s m x) = fu2 (s_kEnd s) m x (s_ended s x) := by unfold kgS; rw [z_letGoS_kEnd, z_giveS_kEnd, z_keepS_kEnd]
theorem kg_kSum (m x : Nat) : s_kSum (kgS s m x) = fu2 (s_kSum s) m x (s_sum s x) := by unfold kgS; rw [z_letGoS_kSum, z_giveS_kSum, z_keepS_kSum]
theorem kg_kRows (m x : Nat) : s_kRows (kgS s m x) = fu2 (s_kRows s) m x (s_rows s x) := by unfold kgS; rw [z_letGoS_kRows, z_giveS_kRows, z_keepS_kRows]
theorem kg_acks (m x : Nat) : s_acks (kgS s m x) = s_acks s ++ [(m, x)] := by unfold kgS; rw [z_letGoS_acks, z_giveS_acks, z_keepS_acks]
theorem kg_held (m x : Nat) : s_held (kgS s m x) = fun j => if j < s_C s ∧ s_to s j = x then none else s_held s j := by unfold kgS; rw [z_letGoS_held, z_giveS_held, z_giveS_to, z_keepS_held, z_keepS_to]
theorem kg_q (m x : Nat) : s_q (kgS s m x) = fun c => if c < s_C s ∧ s_fr s c = some x then s_q s c ++ [(1, lN m)] else s_q s c := by unfold kgS; rw [z_letGoS_q, z_giveS_q, z_keepS_q, z_keepS_C, z_keepS_fr]
theorem kg_qi {m x c : Nat} (hc : c < s_C s) (hf : s_fr s c = some x) : s_q (kgS s m x) c = s_q s c ++ [(1, lN m)] := by
  rw [kg_q]
  exact if_pos ⟨hc, hf⟩
theorem kg_qo {m x c : Nat} (hf : ¬ s_fr s c = some x) : s_q (kgS s m x) c = s_q s c := by
  rw [kg_q]
  exact if_neg (fun z => hf z.2)
theorem kg_due (m x : Nat) : dueS (kgS s m x) = dueS s := dueS_of (kg_M m x) (kg_cond m x) (kg_came m x)
theorem kg_NK (m x : Nat) : NKs (kgS s m x) = NKs (keepS s m x) := NKs_of ((kg_M m x).trans (z_keepS_M s m x).symm) ((kg_cond m x).trans (z_keepS_cond s m x).symm) ((kg_kept m x).trans (z_keepS_kept s m x).symm)
theorem kg_kp (m x : Nat) : kp (kgS s m x) = kp (keepS s m x) := by
  unfold kp
  rw [kg_M, kg_N, kg_kept, z_keepS_M, z_keepS_N, z_keepS_kept]
theorem Iv.kg (h : Iv s) {m x : Nat} (hx : x < s_N s) (he : s_ended s x = false) (hall : (ins s x).all (fun c => (s_held s c).isSome || s_over s c) = true) (hh : heldS s x = some m) (hcr : credit s x = true) : Iv (kgS s m x) := by
  have hA := h.acks
  obtain ⟨w, hO, hK, hQ, hT, hF, hP, hE, hR, hH, hbg⟩ := h
  have hmm := hO.held he hh
  obtain ⟨hmM, hm0, hmk⟩ := mem_NKs.mp hmm
  have hM := w.M
  have hhead : ∃ r, NKs s x = m :: r := by
    obtain ⟨c, hc, hm⟩ := List.exists_of_findSome?_eq_some hh
    obtain ⟨h1, h2⟩ := mem_ins.mp hc
    have h3 := hO.head h1 (by rw [h2]; exact he) hm
    rw [h2] at h3
    cases hN : NKs s x with
    | nil => rw [hN] at h3; cases h3
    | cons a r => rw [hN] at h3; cases h3; exact ⟨r, rfl⟩
  obtain ⟨r, hr⟩ := hhead
  have hsort := NKs_sorted s x
  rw [hr] at hsort
  have hNx : NKs (kgS s m x) x = r := by rw [kg_NK, NKs_keep, hr, filter_head hsort]
  have hNy : ∀ y, y ≠ x → NKs (kgS s m x) y = NKs s y := fun y hy => by rw [kg_NK, NKs_keep_ne hy]
  have wq : Wf (kgS s m x) := by
    have w1 := w.keep hmM hx (by omega)
    have w2 : Wf (giveS (keepS s m x) x 1 (lN m)) := w1.give (by omega) (fun c hc hf => by
      rw [z_keepS_C] at hc
      rw [z_keepS_fr] at hf
      rw [z_keepS_q]
      have := credit_lt hcr hc hf
      omega) (fun _ => ⟨m, by rw [z_keepS_M]; exact hmM, rfl⟩)
    exact w2.lg
  refine ⟨wq, fun j hj hej => ?_, ?_, fun c' j hc' hf' => ?_, fun hz => ?_, ⟨fun c' hc' => ?_, fun m' hm' => ?_⟩, fun c' hc' => ?_, fun c' j hc' hf' => ?_, ?_, fun c' j hc' hf' => ?_, ?_⟩
  · rw [kg_C] at hj
    rw [kg_ended, kg_to] at hej
    obtain ⟨o1, o2⟩ := hO j hj hej
    rw [kg_to]
    have hlv : live (kgS s m x) j ↔ live s j := by unfold live; rw [kg_over, kg_fr, kg_ended]
    rw [hlv]
    have hrest : s_fr s j ≠ some x → restS (kgS s m x) j = restS s j := fun hne => by
      unfold restS
      rw [kg_over, kg_fr, kg_ended, kg_due]
      cases hf : s_fr s j with
      | none => rfl
      | some k =>
        have : k ≠ x := fun z => hne (by rw [hf, z])
        show (if s_over s j = true then [] else if s_ended s k = true then [] else NKs (kgS s m x) k) = (if s_over s j = true then [] else if s_ended s k = true then [] else NKs s k)
        rw [hNy k this]
    by_cases q : s_to s j = x
    · have hne : s_fr s j ≠ some x := fun z => hR.ne hj z q
      have hin := List.all_eq_true.mp hall j (mem_ins.mpr ⟨hj, q⟩)
      have hhn : s_held (kgS s m x) j = none := by rw [kg_held]; exact if_pos ⟨hj, q⟩
      have hPn : PcS (kgS s m x) j = bars (s_q s j) ++ restS s j := by
        unfold PcS
        rw [hhn, kg_qo hne, hrest hne]
        rfl
      rw [q, hNx, hPn]
      rw [q, hr] at o1 o2
      cases hhj : s_held s j with
      | some m' =>
        have e1 : PcS s j = m' :: (bars (s_q s j) ++ restS s j) := by
          unfold PcS
          rw [hhj]
          rfl
        rw [e1] at o1 o2
        exact ⟨(List.cons_prefix_cons.mp o1).2, fun hl => (List.cons.inj (o2 hl)).2⟩
      | none =>
        rw [hhj] at hin
        have hov : s_over s j = true := by simpa using hin
        have hq0 : s_q s j = [] := by
          cases hf : s_fr s j with
          | none => exact w.src hj hf
          | some k => exact ((hE j k hj hf).2 hov (by rw [q]; exact he)).1
        have hr0 : restS s j = [] := by
          unfold restS
          rw [hov]
          rfl
        rw [hq0, hr0]
        refine ⟨List.nil_prefix, fun hl => ?_⟩
        have := hl.1
        rw [hov] at this
        cases this
    · have hhn : s_held (kgS s m x) j = s_held s j := by rw [kg_held]; exact if_neg (fun z => q z.2)
      rw [hNy _ q]
      have e1 : PcS (kgS s m x) j = PcS s j := by
        by_cases hf : s_fr s j = some x
        · have hov : s_over s j = false := by
            cases ho : s_over s j with
            | false => rfl
            | true =>
              have := ((hE j x hj hf).2 ho hej).2
              rw [he] at this
              cases this
          unfold PcS restS
          rw [hhn, kg_qi hj hf, kg_over, kg_fr, kg_ended, hf, hov, bars_app, bars_bar (by omega)]
          show (s_held s j).toList ++ (bars (s_q s j) ++ [m] ++ if s_ended s x = true then [] else NKs (kgS s m x) x) = (s_held s j).toList ++ (bars (s_q s j) ++ if s_ended s x = true then [] else NKs s x)
          rw [he, hNx, hr, List.append_assoc]
          rfl
        · unfold PcS
          rw [hhn, kg_qo hf, hrest hf]
      rw [e1]
      exact ⟨o1, o2⟩
  · have := IvK.keep hK hmM hx hmk
    unfold IvK at this ⊢
    rw [kg_kp, kg_acks]
    rw [z_keepS_acks] at this
    exact this
  · rw [kg_C] at hc'
    rw [kg_fr] at hf'
    have h1 := hQ c' j hc' hf'
    rw [kg_ended]
    by_cases q : s_fr s c' = some x
    · have h2 := credit_lt hcr hc' q
      rw [kg_qi hc' q, List.length_append, List.length_singleton]
      split <;> omega
    · rw [kg_qo q]; exact h1
  · rw [kg_tol] at hz
    have := (hT hz).1
    omega
  · rw [kg_C] at hc'
    rw [kg_log, kg_fin, kg_stand, kg_over, kg_held, kg_q]
    show (if c' < s_C s ∧ s_fr s c' = some x then s_q s c' ++ [(1, lN m)] else s_q s c') = [] ∧ _ ∧ _ ∧ _ ∧ _ ∧ (if c' < s_C s ∧ s_to s c' = x then none else s_held s c') = none
    rw [if_neg (fun z => by have := z.1; omega), if_neg (fun z => by have := z.1; omega)]
    exact hF.1 c' hc'
  · rw [kg_M] at hm'
    rw [kg_cond, kg_kept, kg_fails, kg_taken, kg_kSum, kg_kRows, kg_kEnd, kg_came, fu2_ne _ _ _ (by omega), fu2_ne _ _ _ (by omega), fu2_ne _ _ _ (by omega), fu2_ne _ _ _ (by omega)]
    exact hF.2 m' hm'
  · rw [kg_C] at hc'
    rw [kg_M, kg_pos, kg_log, kg_stand, kg_due]
    exact hP c' hc'
  · rw [kg_C] at hc'
    rw [kg_fr] at hf'
    rw [kg_ended, kg_over, kg_to]
    obtain ⟨⟨g1, g2⟩, g3⟩ := hE c' j hc' hf'
    by_cases q : s_fr s c' = some x
    · have hjx : j = x := by rw [hf'] at q; exact Option.some.inj q
      rw [kg_qi hc' q]
      have hno : ∀ y, y ∈ s_q s c' → y.1 ≠ 2 := fun y hy hy2 => by
        have := g2 y hy hy2
        rw [hjx, he] at this
        cases this
      refine ⟨⟨fun y hy => hno y (dl_app hy), fun y hy hy2 => ?_⟩, fun h1 h2 => ?_⟩
      · rcases List.mem_append.mp hy with hy | hy
        · exact absurd hy2 (hno y hy)
        · rw [List.mem_singleton.mp hy] at hy2
          cases hy2
      · have := (g3 h1 h2).2
        rw [hjx, he] at this
        cases this
    · rw [kg_qo q]
      exact ⟨⟨g1, g2⟩, g3⟩
  · obtain ⟨rk, hrk⟩ := hR
    refine ⟨rk, fun c' j hc' hf' => ?_⟩
    rw [kg_C] at hc'
    rw [kg_fr] at hf'
    rw [kg_to]
    exact hrk c' j hc' hf'
  · rw [kg_C] at hc'
    rw [kg_fr] at hf'
    have := hH c' j hc' hf'
    unfold hasIn ins at this ⊢
    rw [kg_C, kg_to]
    exact this
  · unfold begunS at hbg ⊢
    rw [kg_M, kg_cond]
    exact hbg
end PI
