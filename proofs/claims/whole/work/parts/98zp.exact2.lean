/-! exact: the class's ints and the reference's longs come to the same -/
section PX
variable {s : zSt}
theorem filt2 (p q u : Nat → Bool) (h1 : ∀ c, p c = true → u c = true) (h2 : ∀ c, q c = true → u c = true) (h3 : ∀ c, p c = true → q c = true → False) : ∀ l : List Nat, (l.filter p).length + (l.filter q).length ≤ (l.filter u).length := by
  intro l
  induction l with
  | nil => simp
  | cons c l ih =>
    have h1 := h1 c
    have h2 := h2 c
    have h3 := h3 c
    rw [List.filter_cons, List.filter_cons, List.filter_cons]
    cases hp : p c with
    | true =>
      rw [hp] at h1 h3
      have hu := h1 rfl
      cases hq : q c with
      | true => exact absurd hq (fun z => h3 rfl z)
      | false =>
        rw [hu]
        simp only [if_true, if_false, List.length_cons, Bool.false_eq_true]
        omega
    | false =>
      cases hq : q c with
      | true =>
        rw [hq] at h2
        rw [h2 rfl]
        simp only [if_true, if_false, List.length_cons, Bool.false_eq_true]
        omega
      | false =>
        cases hu : u c with
        | true =>
          simp only [if_true, if_false, List.length_cons, Bool.false_eq_true]
          omega
        | false =>
          simp only [if_false, Bool.false_eq_true]
          exact ih
/-- how many channels lead to tasks of a rank up to y -/
def cntR (s : zSt) (r : Nat → Nat) (y : Nat) : Nat := ((List.range (s_C s)).filter fun c => decide (r (s_to s c) ≤ y)).length
theorem cntR_le (w : Wf s) (r : Nat → Nat) (y : Nat) : cntR s r y ≤ 16 := by
  unfold cntR
  have := List.length_filter_le (fun c => decide (r (s_to s c) ≤ y)) (List.range (s_C s))
  rw [List.length_range] at this
  have := w.C
  omega
theorem cntR_lt {r : Nat → Nat} {k x : Nat} (h : r k < r x) : cntR s r (r k) + (ins s x).length ≤ cntR s r (r x) := by
  unfold cntR ins
  refine filt2 _ _ _ (fun c hc => ?_) (fun c hc => ?_) (fun c hc hd => ?_) _
  · have := of_decide_eq_true hc
    exact decide_eq_true (by omega)
  · rw [beq_iff_eq] at hc
    exact decide_eq_true (by rw [hc]; exact Nat.le_refl _)
  · rw [beq_iff_eq] at hd
    have := of_decide_eq_true hc
    rw [hd] at this
    omega
theorem cntR_ge {r : Nat → Nat} {x : Nat} : (ins s x).length ≤ cntR s r (r x) := by
  unfold cntR ins
  have := filt2 (fun _ => false) (fun c => s_to s c == x) (fun c => decide (r (s_to s c) ≤ r x)) (fun c hc => by cases hc) (fun c hc => by
    rw [beq_iff_eq] at hc
    exact decide_eq_true (by rw [hc]; exact Nat.le_refl _)) (fun c hc _ => by cases hc) (List.range (s_C s))
  omega
def Rel2 (s : zSt) (r : Nat → Nat) (A : cAr) (B : cAi) : Prop := ∀ k, k < s_N s → A.1 k = B.1 k ∧ ∃ v, v ≤ 200 * 2 ^ cntR s r (r k) ∧ A.2 k = lN v ∧ B.2 k = nI v
theorem pw16 {y : Nat} (h : y ≤ 16) : 200 * 2 ^ y < 2 ^ 31 := by
  have : 2 ^ y ≤ 2 ^ 16 := Nat.pow_le_pow_right (by omega) h
  omega
/-- what one channel brings -/
def caG (s : zSt) (m : Nat) (A : cAr) (p : Int64 × Int64) (c : Nat) : Int64 × Int64 := match s_fr s c with
  | none => (sumL ((s_log s c).take (s_pos s m c)) p.1, p.2 + lN (s_pos s m c))
  | some k => (p.1 + (3 * A.1 k + lN k * A.2 k), p.2 + A.2 k)
theorem caF_ins (m x : Nat) (A : cAr) (p : Int64 × Int64) : (List.range' 0 (s_C s)).foldl (caF s m x A) p = (ins s x).foldl (caG s m A) p := by
  unfold ins
  rw [List.foldl_filter, ← List.range_eq_range']
  congr 1
  funext p c
  unfold caF
  by_cases q : s_to s c = x
  · rw [if_pos q, if_pos (by rw [q]; exact beq_self_eq_true _)]
    rfl
  · rw [if_neg q, if_neg (by rw [bqf q]; decide)]
theorem rel_fold (w : Wf s) {r : Nat → Nat} {m : Nat} {A : cAr} {B : cAi} (h : Rel2 s r A B) (K : Nat) : ∀ (l : List Nat), (∀ c, c ∈ l → c < s_C s ∧ (s_fr s c = none → s_pos s m c ≤ K) ∧ ∀ k, s_fr s c = some k → 200 * 2 ^ cntR s r (r k) ≤ K) → ∀ (p : Int64 × Int64) (p' : Int64 × Int32) (v : Nat), p.1 = p'.1 → p.2 = lN v → p'.2 = nI v → (l.foldl (caG s m A) p).1 = (l.foldl (ciF s m B) p').1 ∧ ∃ v', v' ≤ v + l.length * K ∧ (l.foldl (caG s m A) p).2 = lN v' ∧ (l.foldl (ciF s m B) p').2 = nI v' := by
  intro l
  induction l with
  | nil =>
    intro _ p p' v h1 h2 h3
    exact ⟨h1, v, by rw [List.length_nil]; omega, h2, h3⟩
  | cons c l ih =>
    intro hl p p' v h1 h2 h3
    obtain ⟨hc, hK1, hK2⟩ := hl c List.mem_cons_self
    have step : ∃ y, y ≤ K ∧ (caG s m A p c).1 = (ciF s m B p' c).1 ∧ (caG s m A p c).2 = lN (v + y) ∧ (ciF s m B p' c).2 = nI (v + y) := by
      unfold caG ciF
      cases hf : s_fr s c with
      | none =>
        refine ⟨s_pos s m c, hK1 hf, ?_, ?_, ?_⟩
        · show sumL ((s_log s c).take (s_pos s m c)) p.1 = p'.1 + sumL ((s_log s c).take (s_pos s m c)) 0
          rw [sumL_add, h1]
        · show p.2 + lN (s_pos s m c) = _
          rw [h2, lN_add]
        · show p'.2 + nI (s_pos s m c) = _
          rw [h3, nI_add]
      | some k =>
        have hk := w.fr hc hf
        obtain ⟨g1, u, g2, g3, g4⟩ := h k hk
        have hu : u < 2 ^ 31 := by
          have := pw16 (cntR_le w r (r k))
          omega
        refine ⟨u, Nat.le_trans g2 (hK2 k hf), ?_, ?_, ?_⟩
        · show p.1 + (3 * A.1 k + lN k * A.2 k) = p'.1 + (3 * B.1 k + lN k * (B.2 k).toInt64)
          rw [h1, g1, g3, g4, nI_l hu]
        · show p.2 + A.2 k = _
          rw [h2, g3, lN_add]
        · show p'.2 + B.2 k = _
          rw [h3, g4, nI_add]
    obtain ⟨y, hy, s1, s2, s3⟩ := step
    rw [List.foldl_cons, List.foldl_cons]
    obtain ⟨i1, v', i2, i3, i4⟩ := ih (fun c' hc' => hl c' (List.mem_cons_of_mem _ hc')) _ _ (v + y) s1 s2 s3
    refine ⟨i1, v', ?_, i3, i4⟩
    rw [List.length_cons, Nat.succ_mul]
    omega
theorem mul_pw (a b : Nat) (h : a ≤ b) : a * (200 * 2 ^ (b - a)) ≤ 200 * 2 ^ b := by
  have h1 : a ≤ 2 ^ a := Nat.le_of_lt Nat.lt_two_pow_self
  have h2 : 2 ^ b = 2 ^ a * 2 ^ (b - a) := by rw [← Nat.pow_add]; congr 1; omega
  rw [h2]
  have h3 : a * 2 ^ (b - a) ≤ 2 ^ a * 2 ^ (b - a) := Nat.mul_le_mul_right _ h1
  have h4 : a * (200 * 2 ^ (b - a)) = 200 * (a * 2 ^ (b - a)) := by rw [← Nat.mul_assoc, Nat.mul_comm a 200, Nat.mul_assoc]
  rw [h4]
  exact Nat.mul_le_mul_left _ h3
theorem Rel2.step (w : Wf s) {r : Nat → Nat} (hr : ∀ c k, c < s_C s → s_fr s c = some k → r k < r (s_to s c)) {m : Nat} {A : cAr} {B : cAi} (h : Rel2 s r A B) (x : Nat) : Rel2 s r (caT s m A x) (ciT s m B x) := by
  intro k hk
  unfold caT ciT
  rw [caF_ins]
  by_cases q : k = x
  · rw [q]
    dsimp only
    rw [fu_self, fu_self, fu_self, fu_self]
    have hge := cntR_ge (s := s) (r := r) (x := x)
    have hpos : 1 ≤ 2 ^ (cntR s r (r x) - (ins s x).length) := Nat.one_le_two_pow
    obtain ⟨f1, v', f2, f3, f4⟩ := rel_fold w (m := m) h (200 * 2 ^ (cntR s r (r x) - (ins s x).length)) (ins s x) (fun c hc => by
      obtain ⟨c1, c2⟩ := mem_ins.mp hc
      refine ⟨c1, fun hf => ?_, fun k hf => ?_⟩
      · have := w.pos m c
        omega
      · have h1 := hr c k c1 hf
        rw [c2] at h1
        have h2 := cntR_lt (s := s) h1
        exact Nat.mul_le_mul_left _ (Nat.pow_le_pow_right (by omega) (by omega))) (0, 0) (0, 0) 0 rfl rfl rfl
    refine ⟨f1, v', ?_, f3, f4⟩
    have := mul_pw _ _ hge
    omega
  · dsimp only
    rw [fu_ne _ _ q, fu_ne _ _ q, fu_ne _ _ q, fu_ne _ _ q]
    exact h k hk
theorem Rel2.all (w : Wf s) {r : Nat → Nat} (hr : ∀ c k, c < s_C s → s_fr s c = some k → r k < r (s_to s c)) {m : Nat} : ∀ (l : List Nat) (A : cAr) (B : cAi), Rel2 s r A B → Rel2 s r (l.foldl (caT s m) A) (l.foldl (ciT s m) B) := by
  intro l
  induction l with
  | nil => intro A B h; exact h
  | cons x l ih => intro A B h; exact ih _ _ (h.step w hr x)
theorem Rel2.rep (w : Wf s) {r : Nat → Nat} (hr : ∀ c k, c < s_C s → s_fr s c = some k → r k < r (s_to s c)) {m : Nat} : ∀ (d : Nat) (A : cAr) (B : cAi), Rel2 s r A B → Rel2 s r (caI s m d A) (ciI s m d B) := by
  intro d
  induction d with
  | zero => intro A B h; exact h
  | succ d ih => intro A B h; exact ih _ _ (Rel2.all w hr _ A B h)
theorem toI64_inj {a b : Int32} (h : a.toInt64 = b.toInt64) : a = b := by
  have := congrArg Int64.toInt32 h
  rw [Int32.toInt32_toInt64, Int32.toInt32_toInt64] at this
  exact this
theorem exact_same (h : Iv s) (m : Nat) (A : cAr) (B : cAi) : exactS s m A = exactI s m B := by
  obtain ⟨w, hO, hK, hQ, hT, hF, hP, hE, ⟨r, hr⟩, hH, hb⟩ := h
  have h0 : Rel2 s r (caZ (s_N s) A) (ciZ (s_N s) B) := by
    intro k hk
    unfold caZ ciZ
    dsimp only
    rw [if_pos hk, if_pos hk, if_pos hk, if_pos hk]
    exact ⟨rfl, 0, Nat.zero_le _, rfl, rfl⟩
  have h1 := Rel2.rep w hr (m := m) (s_N s) _ _ h0
  unfold exactS exactI
  generalize caI s m (s_N s) (caZ (s_N s) A) = A1 at h1
  generalize ciI s m (s_N s) (ciZ (s_N s) B) = B1 at h1
  rw [Bool.eq_iff_iff, List.all_eq_true, List.all_eq_true]
  have key : ∀ x, x ∈ List.range' 0 (s_N s) → (exF s m A1 x = true ↔ exI s m B1 x = true) := fun x hx => by
    have hx2 : x < s_N s := by
      rw [← List.range_eq_range'] at hx
      exact List.mem_range.mp hx
    obtain ⟨g1, v, g2, g3, g4⟩ := h1 x hx2
    have hv : v < 2 ^ 31 := by
      have := pw16 (cntR_le w r (r x))
      omega
    unfold exF exI
    rw [Bool.and_eq_true, Bool.and_eq_true, beq_iff_eq, beq_iff_eq, beq_iff_eq, beq_iff_eq, g1, g3, g4, ← nI_l hv]
    constructor
    · rintro ⟨a, b⟩; exact ⟨a.symm, (toI64_inj b).symm⟩
    · rintro ⟨a, b⟩; exact ⟨a.symm, by rw [b]⟩
  exact ⟨fun z x hx => (key x hx).mp (z x hx), fun z x hx => (key x hx).mpr (z x hx)⟩
end PX
