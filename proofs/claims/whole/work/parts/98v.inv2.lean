/-! what the invariants give: the needs of both turns -/
section PI
variable {s : zSt}
theorem sum_room (f : Nat → Nat) (p : Nat → Bool) (N : Nat) (h : ∀ m, f m + (if p m then 1 else 0) ≤ N) : ∀ M, ((List.range M).map f).sum + ((List.range M).filter p).length ≤ M * N := by
  intro M
  induction M with
  | zero => simp
  | succ M ih =>
    rw [List.range_succ, List.map_append, List.sum_append, List.filter_append, List.length_append]
    have h1 := h M
    have e1 : (List.map f [M]).sum = f M := by simp
    have e2 : (List.filter p [M]).length = if p M then 1 else 0 := by
      cases hp : p M <;> simp [hp]
    rw [e1, e2, Nat.succ_mul]
    omega
theorem kept_room {x m : Nat} (hx : x < s_N s) (hk : s_kept s m x = false) : ((List.range (s_N s)).filter fun x => s_kept s m x).length + 1 ≤ s_N s := by
  have h1 : ((List.range (s_N s)).filter fun x => s_kept s m x).length < (List.range (s_N s)).length := List.length_filter_lt_length_iff_exists.mpr ⟨x, List.mem_range.mpr hx, by rw [hk]; decide⟩
  rw [List.length_range] at h1
  omega
theorem kp_room (s : zSt) {x : Nat} (hx : x < s_N s) : kp s + (NKs s x).length ≤ s_M s * s_N s := by
  unfold kp NKs
  refine sum_room _ _ _ (fun m => ?_) _
  cases hk : s_kept s m x with
  | false =>
    have := kept_room hx hk
    split <;> omega
  | true =>
    have h1 : ((List.range (s_N s)).filter fun x => s_kept s m x).length ≤ s_N s := by
      have := List.length_filter_le (fun x => s_kept s m x) (List.range (s_N s))
      rw [List.length_range] at this
      exact this
    rw [if_neg (by simp)]
    omega
theorem kp_le (s : zSt) : kp s ≤ s_M s * s_N s := by
  have := sum_room (fun m => ((List.range (s_N s)).filter fun x => s_kept s m x).length) (fun _ => false) (s_N s) (fun m => by
    have := List.length_filter_le (fun x => s_kept s m x) (List.range (s_N s))
    rw [List.length_range] at this
    rw [if_neg (by decide)]
    exact this) (s_M s)
  unfold kp
  omega
theorem MN_le (w : Wf s) : s_M s * s_N s ≤ 320 := Nat.mul_le_mul w.M w.N8
theorem Iv.room (h : Iv s) {x : Nat} (hx : x < s_N s) : (s_acks s).length + (NKs s x).length ≤ 520 := by
  have h1 : (s_acks s).length ≤ 200 + kp s := h.2.2.1
  have := kp_room s hx
  have := MN_le h.1
  omega
theorem Iv.acks (h : Iv s) : (s_acks s).length ≤ 520 := by
  have h1 : (s_acks s).length ≤ 200 + kp s := h.2.2.1
  have := kp_le s
  have := MN_le h.1
  omega
theorem Iv.gd (h : Iv s) : Gd s := by
  have hA := h.acks
  obtain ⟨w, hO, hK, hQ, hT, hF, hP, hE, hR, hH, hb⟩ := h
  refine ⟨w, by omega, fun x _ he => hO.one he, fun c x hc hf he => ?_⟩
  have := hQ c x hc hf
  rw [he] at this
  simp at this
  omega
theorem Iv.gc (h : Iv s) {x : Nat} (hx : x < s_N s) (he : s_ended s x = false) : GC s x := by
  have hA := h.room hx
  obtain ⟨w, hO, hK, hQ, hT, hF, hP, hE, hR, hH, hb⟩ := h
  refine ⟨fun c hc => ?_, fun c hc => ?_, hA, fun m hm => hO.held he hm⟩
  · obtain ⟨h1, h2⟩ := mem_ins.mp hc
    refine ⟨hP.due h1, fun hf ho => ?_⟩
    cases hfr : s_fr s c with
    | none => exact absurd hfr hf
    | some k => exact ((hE c k h1 hfr).2 ho (by rw [h2]; exact he)).1
  · obtain ⟨h1, h2⟩ := mem_outs.mp hc
    have := hQ c x h1 h2
    rw [he] at this
    simp at this
    exact this
theorem Iv.frM (h : Iv s) : FrM s := by
  obtain ⟨w, hO, hK, hQ, hT, hF, hP, hE, hR, hH, hb⟩ := h
  exact hF.2 (s_M s) (Nat.le_refl _)
theorem Iv.frC (h : Iv s) (ht : s_tol s = false) : FrC s := by
  obtain ⟨w, hO, hK, hQ, hT, hF, hP, hE, hR, hH, hb⟩ := h
  obtain ⟨h1, h2, h3, h4⟩ := hT ht
  obtain ⟨f1, f2, f3, f4, f5, f6⟩ := hF.1 (s_C s) (Nat.le_refl _)
  exact ⟨f1, f2, f3, f4, f5, f6, h1, fun x => (h3 x).1⟩
/-- all tasks may keep the new mark at once -/
theorem Iv.markRoom (h : Iv s) (hM : s_M s < 40) : (s_acks s).length + s_N s ≤ 520 := by
  have h1 : (s_acks s).length ≤ 200 + kp s := h.2.2.1
  have h2 := kp_le s
  have w := h.1
  have h8 := w.N8
  have h3 : s_M s * s_N s + s_N s ≤ 320 := by
    have : (s_M s + 1) * s_N s ≤ 40 * 8 := Nat.mul_le_mul (by omega) h8
    rw [Nat.succ_mul] at this
    exact this
  omega
end PI
