/-! the invariants are kept: a task that has ended, or has no channel into it, keeps a mark; a task ends -/
section PI
variable {s : zSt}
theorem hasIn_no {x j : Nat} (h : hasIn s x = false) (hj : j < s_C s) : s_to s j ≠ x := fun z => by
  have h1 : j ∈ ins s x := mem_ins.mpr ⟨hj, z⟩
  unfold hasIn at h
  rw [Bool.not_eq_false', List.isEmpty_iff] at h
  rw [h] at h1
  cases h1
theorem Iv.keepE (h : Iv s) {m x : Nat} (hm : m < s_M s) (hx : x < s_N s) (hk : s_kept s m x = false) (he : s_ended s x = true ∨ hasIn s x = false) : Iv (keepS s m x) := by
  have hA := h.acks
  obtain ⟨w, hO, hK, hQ, hT, hF, hP, hE, hR, hH, hbg⟩ := h
  have hto : ∀ j, j < s_C s → s_ended s (s_to s j) = false → s_to s j ≠ x := fun j hj hej z => by
    rcases he with he | he
    · rw [z, he] at hej; cases hej
    · exact hasIn_no he hj z
  have hfr : ∀ j k, j < s_C s → s_fr s j = some k → s_ended s k = false → k ≠ x := fun j k hj hf hek z => by
    rcases he with he | he
    · rw [z, he] at hek; cases hek
    · have := hH j k hj hf
      rw [z, he] at this
      cases this
  refine ⟨w.keep hm hx (by omega), fun j hj hej => ?_, hK.keep hm hx hk, fun c' j hc' hf' => ?_, fun hz => ?_, ⟨fun c' hc' => ?_, fun m' hm' => ?_⟩, fun c' hc' => ?_, fun c' j hc' hf' => ?_, ?_, fun c' j hc' hf' => ?_, ?_⟩
  · rw [z_keepS_C] at hj
    rw [z_keepS_ended, z_keepS_to] at hej
    obtain ⟨o1, o2⟩ := hO j hj hej
    have hlv : live (keepS s m x) j ↔ live s j := by unfold live; rw [z_keepS_over, z_keepS_fr, z_keepS_ended]
    have e1 : PcS (keepS s m x) j = PcS s j := by
      have e2 : restS (keepS s m x) j = restS s j := by
        unfold restS
        rw [z_keepS_over, z_keepS_fr, z_keepS_ended, dueS_keep]
        cases hf : s_fr s j with
        | none => rfl
        | some k =>
          show (if s_over s j = true then [] else if s_ended s k = true then [] else NKs (keepS s m x) k) = (if s_over s j = true then [] else if s_ended s k = true then [] else NKs s k)
          cases hek : s_ended s k with
          | true => rw [if_pos (rfl : true = true), if_pos (rfl : true = true)]
          | false => rw [NKs_keep_ne (hfr j k hj hf hek)]
      unfold PcS
      rw [e2, z_keepS_held, z_keepS_q]
    rw [hlv, e1, z_keepS_to, NKs_keep_ne (hto j hj hej)]
    exact ⟨o1, o2⟩
  · rw [z_keepS_C] at hc'
    rw [z_keepS_fr] at hf'
    rw [z_keepS_ended, z_keepS_q]
    exact hQ c' j hc' hf'
  · rw [z_keepS_tol] at hz
    have := (hT hz).1
    omega
  · rw [z_keepS_C] at hc'
    rw [z_keepS_log, z_keepS_fin, z_keepS_stand, z_keepS_over, z_keepS_held, z_keepS_q]
    exact hF.1 c' hc'
  · rw [z_keepS_M] at hm'
    rw [z_keepS_cond, z_keepS_kept, z_keepS_fails, z_keepS_taken, z_keepS_kSum, z_keepS_kRows, z_keepS_kEnd, z_keepS_came, fu2_ne _ _ _ (by omega), fu2_ne _ _ _ (by omega), fu2_ne _ _ _ (by omega), fu2_ne _ _ _ (by omega)]
    exact hF.2 m' hm'
  · rw [z_keepS_C] at hc'
    rw [z_keepS_M, z_keepS_pos, z_keepS_log, z_keepS_stand, dueS_keep]
    exact hP c' hc'
  · rw [z_keepS_C] at hc'
    rw [z_keepS_fr] at hf'
    rw [z_keepS_ended, z_keepS_over, z_keepS_to, z_keepS_q]
    exact hE c' j hc' hf'
  · obtain ⟨rk, hrk⟩ := hR
    refine ⟨rk, fun c' j hc' hf' => ?_⟩
    rw [z_keepS_C] at hc'
    rw [z_keepS_fr] at hf'
    rw [z_keepS_to]
    exact hrk c' j hc' hf'
  · rw [z_keepS_C] at hc'
    rw [z_keepS_fr] at hf'
    have := hH c' j hc' hf'
    unfold hasIn ins at this ⊢
    rw [z_keepS_C, z_keepS_to]
    exact this
  · unfold begunS at hbg ⊢
    rw [z_keepS_M, z_keepS_cond]
    exact hbg
theorem kA_ended (s : zSt) (x k : Nat) : s_ended (keepAll x k s) = s_ended s := by
  induction k with
  | zero => rfl
  | succ k ih =>
    rw [keepAll_s]
    split
    · rw [z_keepS_ended]; exact ih
    · exact ih
theorem Iv.kA (h : Iv s) {x : Nat} (hx : x < s_N s) (he : s_ended s x = true) : ∀ k, k ≤ s_M s → Iv (keepAll x k s) := by
  intro k
  induction k with
  | zero => intro _; exact h
  | succ k ih =>
    intro hk
    have h1 := ih (by omega)
    rw [keepAll_s]
    by_cases q : s_cond (keepAll x k s) k = 0 ∧ s_kept (keepAll x k s) k x = false
    · rw [if_pos q]
      exact h1.keepE (by rw [kA_M]; omega) (by rw [kA_N]; exact hx) q.2 (Or.inl (by rw [kA_ended]; exact he))
    · rw [if_neg q]; exact h1
def enS (s : zSt) (x : Nat) : zSt := u_ended (giveS s x 2 0) (fu (s_ended s) x true)
theorem Iv.en (h : Iv s) (ht : s_tol s = true) {x : Nat} (he : s_ended s x = false) : Iv (enS s x) := by
  obtain ⟨w, hO, hK, hQ, hT, hF, hP, hE, hR, hH, hbg⟩ := h
  have hq8 : ∀ c, c < s_C s → s_fr s c = some x → (s_q s c).length ≤ 8 := fun c hc hf => by
    have := hQ c x hc hf
    rw [he] at this
    exact this
  have wq : Wf (enS s x) := Wf.uended (w.give (by omega) (fun c hc hf => by have := hq8 c hc hf; omega) (fun z => by omega))
  have eqE : s_ended (enS s x) = fu (s_ended s) x true := su_ended _ _
  have eqQ : s_q (enS s x) = s_q (giveS s x 2 0) := y_q_ended _ _
  have hmono : ∀ y, s_ended (enS s x) y = false → y ≠ x ∧ s_ended s y = false := fun y hy => by
    rw [eqE] at hy
    by_cases q : y = x
    · rw [q, fu_self] at hy; cases hy
    · rw [fu_ne _ _ q] at hy; exact ⟨q, hy⟩
  refine ⟨wq, fun j hj hej => ?_, hK, fun c' j hc' hf' => ?_, fun hz => ?_, ⟨fun c' hc' => ?_, hF.2⟩, hP, fun c' j hc' hf' => ?_, hR, hH, hbg⟩
  · have hj' : j < s_C s := hj
    obtain ⟨hne, hej'⟩ := hmono (s_to s j) hej
    obtain ⟨o1, o2⟩ := hO j hj' hej'
    have hNK : NKs (enS s x) = NKs s := NKs_of rfl rfl rfl
    have hdu : dueS (enS s x) = dueS s := dueS_of rfl rfl rfl
    rw [hNK]
    have e2 : bars (s_q (enS s x) j) = bars (s_q s j) := by
      rw [eqQ]
      by_cases q : s_fr s j = some x
      · rw [giveS_qi hj' q, bars_app, bars_row 0 (by decide), List.append_nil]
      · rw [giveS_qo q]
    by_cases q : s_fr s j = some x
    · have e3 : restS (enS s x) j = [] := by
        unfold restS
        rw [show s_fr (enS s x) j = some x from q, eqE]
        show (if s_over (enS s x) j = true then [] else if fu (s_ended s) x true x = true then [] else NKs (enS s x) x) = []
        rw [fu_self]
        split <;> rfl
      have e1 : PcS (enS s x) j <+: PcS s j := by
        unfold PcS
        rw [e2, e3, List.append_nil, ← List.append_assoc]
        exact List.prefix_append _ _
      refine ⟨e1.trans o1, fun hl => ?_⟩
      have := hl.2 x q
      rw [eqE, fu_self] at this
      cases this
    · have e3 : restS (enS s x) j = restS s j := by
        unfold restS
        rw [hNK, hdu, eqE]
        show (if s_over s j = true then [] else match s_fr s j with | none => dueS s j | some k => if fu (s_ended s) x true k = true then [] else NKs s k) = (if s_over s j = true then [] else match s_fr s j with | none => dueS s j | some k => if s_ended s k = true then [] else NKs s k)
        cases hf : s_fr s j with
        | none => rfl
        | some k =>
          have : k ≠ x := fun z => q (by rw [hf, z])
          show (if s_over s j = true then [] else if fu (s_ended s) x true k = true then [] else NKs s k) = (if s_over s j = true then [] else if s_ended s k = true then [] else NKs s k)
          rw [fu_ne _ _ this]
      have e1 : PcS (enS s x) j = PcS s j := by
        unfold PcS
        rw [e2, e3]
        rfl
      rw [e1]
      refine ⟨o1, fun hl => o2 ⟨hl.1, fun k hk => ?_⟩⟩
      exact (hmono k (hl.2 k hk)).2
  · have hc2 : c' < s_C s := hc'
    have hf2 : s_fr s c' = some j := hf'
    have h1 := hQ c' j hc2 hf2
    rw [eqQ, eqE]
    by_cases q : s_fr s c' = some x
    · have hjx : j = x := by rw [hf2] at q; exact Option.some.inj q
      have h2 := hq8 c' hc2 q
      rw [giveS_qi hc2 q, List.length_append, List.length_singleton, hjx, fu_self]
      show (s_q s c').length + 1 ≤ 9
      omega
    · have hjx : j ≠ x := fun z => q (by rw [hf2, z])
      rw [giveS_qo q, fu_ne _ _ hjx]; exact h1
  · have hz' : s_tol s = false := hz
    rw [ht] at hz'
    cases hz'
  · have hc2 : s_C s ≤ c' := hc'
    obtain ⟨f1, f2, f3, f4, f5, f6⟩ := hF.1 c' hc2
    refine ⟨?_, f2, f3, f4, f5, f6⟩
    rw [eqQ, z_giveS_q]
    show (if c' < s_C s ∧ s_fr s c' = some x then s_q s c' ++ [(2, 0)] else s_q s c') = []
    rw [if_neg (fun z => by have := z.1; omega)]
    exact f1
  · have hc2 : c' < s_C s := hc'
    have hf2 : s_fr s c' = some j := hf'
    obtain ⟨⟨g1, g2⟩, g3⟩ := hE c' j hc2 hf2
    have hmt : ∀ y, s_ended s y = true → s_ended (enS s x) y = true := fun y hy => by
      cases hy2 : s_ended (enS s x) y with
      | true => rfl
      | false =>
        have := (hmono y hy2).2
        rw [hy] at this
        cases this
    by_cases q : s_fr s c' = some x
    · have hjx : j = x := by rw [hf2] at q; exact Option.some.inj q
      rw [eqQ, giveS_qi hc2 q]
      have hno : ∀ y, y ∈ s_q s c' → y.1 ≠ 2 := fun y hy hy2 => by
        have := g2 y hy hy2
        rw [hjx, he] at this
        cases this
      refine ⟨⟨fun y hy => hno y (dl_app hy), fun y hy hy2 => ?_⟩, fun h1 h2 => ?_⟩
      · rw [hjx, eqE, fu_self]
      · have := (g3 h1 (hmono (s_to s c') h2).2).2
        rw [hjx, he] at this
        cases this
    · rw [eqQ, giveS_qo q]
      refine ⟨⟨g1, fun y hy hy2 => hmt j (g2 y hy hy2)⟩, fun h1 h2 => ?_⟩
      obtain ⟨k1, k2⟩ := g3 h1 (hmono (s_to s c') h2).2
      exact ⟨k1, hmt j k2⟩
end PI
