/-! BarrierMarks$Line.<init>(II)V -/
def fL_init (V : zV) (n : Nat) (a0 : Nat) (x1 : Int32) (x2 : Int32) : Option zR :=
    zdV (fCh_init V n a0 x1 x2) fun V n =>
    znwa V n 0 9 (9 : Int32) (.inl (fun _ => 0)) fun t1 V n =>
    (zpR V (some a0) [2] 4 (some t1)).bind fun V =>
    znwa V n 1 9 (9 : Int32) (.inr (.inl (fun _ => 0))) fun t2 V n =>
    (zpR V (some a0) [2] 5 (some t2)).bind fun V =>
    zrV V n
set_option maxHeartbeats 4000000 in
set_option maxRecDepth 100000 in
theorem bL_init {x : zX} {w : zR} (C : zC x prog_4_method_1_code "BarrierMarks$Line" "<init>" 3 2 34 none) (M : zM x 2 18) : ∀ (V : zV) (n : Nat) (a0 : Nat) (x1 : Int32) (x2 : Int32), fL_init V n a0 x1 x2 = some w → zZ x 3 0 0 w V n 0 [(0, va_rf (some a0)), (1, .int x1), (2, .int x2)] [] := by
  intro V n a0 x1 x2 h
  unfold fL_init at h
  refine z_aload_n C 0 dL_init_0 rfl rfl ?_
  refine z_iload_n C 1 dL_init_1 rfl rfl ?_
  refine z_iload_n C 2 dL_init_2 rfl rfl ?_
  refine z_iS (mc1 := 0) (ms1 := 0) (b := a0) C M (by decide) (by decide) [.int x1, .int x2] cn_L_3 (by decide) (by decide) rfl rfl (Nat.zero_le _) dL_init_3 h (fun w1 e1 l D dA hl => mCh_init hl e1) (fun V n h => ?_)
  refine z_aload_n C 0 dL_init_6 rfl rfl ?_
  refine z_bipush (v := 9) C dL_init_7 (by decide) ?_
  refine z_newaK (at9 := .int) C M rfl rfl na_0 (fun _ _ => rfl) (fun _ _ => rfl) (by decide) (by decide) (by decide) dL_init_9 h (fun t1 V n h => ?_)
  refine z_putR C pf_L_9 zfitA (fun _ => rfl) dL_init_11 h (fun V h => ?_)
  refine z_aload_n C 0 dL_init_14 rfl rfl ?_
  refine z_bipush (v := 9) C dL_init_15 (by decide) ?_
  refine z_newaK (at9 := .long) C M rfl rfl na_1 (fun _ _ => rfl) (fun _ _ => rfl) (by decide) (by decide) (by decide) dL_init_17 h (fun t2 V n h => ?_)
  refine z_putR C pf_L_15 zfitA (fun _ => rfl) dL_init_19 h (fun V h => ?_)
  exact z_vret C M (by decide) (by decide) dL_init_22 h
theorem mL_init {l : Launch} {D : va_G} {dA : Nat → ClassId} {V : zV} {n : Nat} (hl : l.stackTraces = false) {a0 : Nat} {x1 : Int32} {x2 : Int32} {w : zR} (h : fL_init V n a0 x1 x2 = some w) : z_Met l ⟨"BarrierMarks$Line", "<init>", "(II)V"⟩ prog_4_method_1_code 3 none 2 34 2 18 [.ref a0, .int x1, .int x2] D dA V n w := by exact z_ofZ hl (by decide) (Nat.le_of_ble_eq_true rfl) (fun x C M => bL_init C M V n a0 x1 x2 h)
/-! BarrierMarks$Line.beginMark(I)V -/
def fL_beginMark (V : zV) (n : Nat) (a0 : Nat) (x1 : Int32) : Option zR :=
    zrV V n
set_option maxHeartbeats 4000000 in
set_option maxRecDepth 100000 in
theorem bL_beginMark {x : zX} {w : zR} (C : zC x prog_4_method_7_code "BarrierMarks$Line" "beginMark" 2 0 0 none) (M : zM x (zc w) (zs w)) : ∀ (V : zV) (n : Nat) (a0 : Nat) (x1 : Int32), fL_beginMark V n a0 x1 = some w → zZ x 2 0 0 w V n 0 [(0, va_rf (some a0)), (1, .int x1)] [] := by
  intro V n a0 x1 h
  unfold fL_beginMark at h
  exact z_vret C M (Nat.zero_le _) (Nat.zero_le _) dL_beginMark_0 h
theorem mL_beginMark {l : Launch} {D : va_G} {dA : Nat → ClassId} {V : zV} {n : Nat} (hl : l.stackTraces = false) {a0 : Nat} {x1 : Int32} {w : zR} (h : fL_beginMark V n a0 x1 = some w) : z_Met l ⟨"BarrierMarks$Line", "beginMark", "(I)V"⟩ prog_4_method_7_code 2 none 0 0 (zc w) (zs w) [.ref a0, .int x1] D dA V n w := by exact z_ofZ hl (by decide) (Nat.le_of_ble_eq_true rfl) (fun x C M => bL_beginMark C M V n a0 x1 h)
/-! BarrierMarks$Line.dropBarrier(I)V -/
def fL_dropBarrier_61 (K4 : zV → Nat → Nat → Int32 → Int32 → Int32 → Option zR) (V : zV) (n : Nat) (a0 : Nat) (x1 : Int32) (x2 : Int32) (x3 : Int32) : Option zR :=
    K4 V n a0 x1 x2 (x3 + 1)
set_option maxHeartbeats 4000000 in
set_option maxRecDepth 100000 in
theorem bL_dropBarrier_61 {x : zX} {w : zR} {K4 : zV → Nat → Nat → Int32 → Int32 → Int32 → Option zR} (C : zC x prog_4_method_8_code "BarrierMarks$Line" "dropBarrier" 4 0 0 none) (M : zM x (zc w) (zs w)) (hK4 : ∀ (V : zV) (n : Nat) (a0 : Nat) (x1 : Int32) (x2 : Int32) (x3 : Int32), K4 V n a0 x1 x2 x3 = some w → zZ x 4 0 0 w V n 4 [(0, va_rf (some a0)), (1, .int x1), (2, .int x2), (3, .int x3)] []) : ∀ (V : zV) (n : Nat) (a0 : Nat) (x1 : Int32) (x2 : Int32) (x3 : Int32), fL_dropBarrier_61 K4 V n a0 x1 x2 x3 = some w → zZ x 4 0 0 w V n 61 [(0, va_rf (some a0)), (1, .int x1), (2, .int x2), (3, .int x3)] [] := by
  intro V n a0 x1 x2 x3 h
  unfold fL_dropBarrier_61 at h
  refine z_iinc (lv' := [(3, .int (x3 + 1)), (0, va_rf (some a0)), (1, .int x1), (2, .int x2)]) C 3 dL_dropBarrier_61 rfl rfl (by decide) rfl ?_
  refine z_goto C 4 dL_dropBarrier_64 (by decide) ?_
  refine z_sub [1, 2, 3, 0] rfl ?_
  exact hK4 V n a0 x1 x2 (x3 + 1) h
def fL_dropBarrier_34 (K4 : zV → Nat → Nat → Int32 → Int32 → Int32 → Option zR) (V : zV) (n : Nat) (a0 : Nat) (x1 : Int32) (x2 : Int32) (x3 : Int32) : Option zR :=
    (zgR V (some a0) [2] 4).bind fun t1 =>
    (zgR V (some a0) [2] 4).bind fun t2 =>
    (zaI V t2 0 x3).bind fun t3 =>
    (zsI V t1 0 x2 t3).bind fun V =>
    (zgR V (some a0) [2] 5).bind fun t4 =>
    (zgR V (some a0) [2] 5).bind fun t5 =>
    (zaL V t5 1 x3).bind fun t6 =>
    (zsL V t4 1 x2 t6).bind fun V =>
    fL_dropBarrier_61 K4 V n a0 x1 (x2 + 1) x3
set_option maxHeartbeats 4000000 in
set_option maxRecDepth 100000 in
theorem bL_dropBarrier_34 {x : zX} {w : zR} {K4 : zV → Nat → Nat → Int32 → Int32 → Int32 → Option zR} (C : zC x prog_4_method_8_code "BarrierMarks$Line" "dropBarrier" 4 0 0 none) (M : zM x (zc w) (zs w)) (hK4 : ∀ (V : zV) (n : Nat) (a0 : Nat) (x1 : Int32) (x2 : Int32) (x3 : Int32), K4 V n a0 x1 x2 x3 = some w → zZ x 4 0 0 w V n 4 [(0, va_rf (some a0)), (1, .int x1), (2, .int x2), (3, .int x3)] []) : ∀ (V : zV) (n : Nat) (a0 : Nat) (x1 : Int32) (x2 : Int32) (x3 : Int32), fL_dropBarrier_34 K4 V n a0 x1 x2 x3 = some w → zZ x 4 0 0 w V n 34 [(0, va_rf (some a0)), (1, .int x1), (2, .int x2), (3, .int x3)] [] := by
  intro V n a0 x1 x2 x3 h
  unfold fL_dropBarrier_34 at h
  refine z_aload_n C 0 dL_dropBarrier_34 rfl rfl ?_
  refine z_getR C fl_L_9 dL_dropBarrier_35 h (fun t1 h => ?_)
  refine z_iload_n C 2 dL_dropBarrier_38 rfl rfl ?_
  refine z_aload_n C 0 dL_dropBarrier_39 rfl rfl ?_
  refine z_getR C fl_L_9 dL_dropBarrier_40 h (fun t2 h => ?_)
  refine z_iload_n C 3 dL_dropBarrier_43 rfl rfl ?_
  refine z_iald C rfl dL_dropBarrier_44 h (fun t3 h => ?_)
  refine z_iast C rfl dL_dropBarrier_45 h (fun V h => ?_)
  refine z_aload_n C 0 dL_dropBarrier_46 rfl rfl ?_
  refine z_getR C fl_L_15 dL_dropBarrier_47 h (fun t4 h => ?_)
  refine z_iload_n C 2 dL_dropBarrier_50 rfl rfl ?_
  refine z_aload_n C 0 dL_dropBarrier_51 rfl rfl ?_
  refine z_getR C fl_L_15 dL_dropBarrier_52 h (fun t5 h => ?_)
  refine z_iload_n C 3 dL_dropBarrier_55 rfl rfl ?_
  refine z_lald C rfl dL_dropBarrier_56 h (fun t6 h => ?_)
  refine z_last C rfl dL_dropBarrier_57 h (fun V h => ?_)
  refine z_iinc (lv' := [(2, .int (x2 + 1)), (0, va_rf (some a0)), (1, .int x1), (3, .int x3)]) C 2 dL_dropBarrier_58 rfl rfl (by decide) rfl ?_
  refine z_sub [1, 2, 0, 3] rfl ?_
  exact bL_dropBarrier_61 C M hK4 V n a0 x1 (x2 + 1) x3 h
def fL_dropBarrier_4 : Nat → zV → Nat → Nat → Int32 → Int32 → Int32 → Option zR
  | 0 => fun _ _ _ _ _ _ => none
  | f9 + 1 => fun V n a0 x1 x2 x3 =>
    (zgI V (some a0) [2] 6).bind fun t1 =>
    if t1 ≤ x3 then (
    (zpI V (some a0) [2] 6 x2).bind fun V =>
    zrV V n) else (
    (zgR V (some a0) [2] 4).bind fun t2 =>
    (zaI V t2 0 x3).bind fun t3 =>
    if t3 = (1 : Int32) then (
    (zgR V (some a0) [2] 5).bind fun t4 =>
    (zaL V t4 1 x3).bind fun t5 =>
    if (lg_cmp t5 x1.toInt64) = 0 then (
    fL_dropBarrier_61 (fL_dropBarrier_4 f9) V n a0 x1 x2 x3) else (
    fL_dropBarrier_34 (fL_dropBarrier_4 f9) V n a0 x1 x2 x3)) else (
    fL_dropBarrier_34 (fL_dropBarrier_4 f9) V n a0 x1 x2 x3))
set_option maxHeartbeats 4000000 in
set_option maxRecDepth 100000 in
theorem bL_dropBarrier_4 {x : zX} {w : zR} (C : zC x prog_4_method_8_code "BarrierMarks$Line" "dropBarrier" 4 0 0 none) (M : zM x (zc w) (zs w)) : ∀ (f9 : Nat) (V : zV) (n : Nat) (a0 : Nat) (x1 : Int32) (x2 : Int32) (x3 : Int32), fL_dropBarrier_4 f9 V n a0 x1 x2 x3 = some w → zZ x 4 0 0 w V n 4 [(0, va_rf (some a0)), (1, .int x1), (2, .int x2), (3, .int x3)] [] := by
  intro f9
  induction f9 with
  | zero =>
    intro V n a0 x1 x2 x3 h
    cases h
  | succ f9 ih =>
    intro V n a0 x1 x2 x3 h
    unfold fL_dropBarrier_4 at h
    refine z_iload_n C 3 dL_dropBarrier_4 rfl rfl ?_
    refine z_aload_n C 0 dL_dropBarrier_5 rfl rfl ?_
    refine z_getI C fl_L_19 dL_dropBarrier_6 h (fun t1 h => ?_)
    refine z_icmp_ge C 67 dL_dropBarrier_9 (by decide) h (fun h => ?_) (fun h => ?_)
    · refine z_aload_n C 0 dL_dropBarrier_67 rfl rfl ?_
      refine z_iload_n C 2 dL_dropBarrier_68 rfl rfl ?_
      refine z_putI C pf_L_19 (fun h => absurd h (by decide)) dL_dropBarrier_69 h (fun V h => ?_)
      exact z_vret C M (Nat.zero_le _) (Nat.zero_le _) dL_dropBarrier_72 h
    · refine z_aload_n C 0 dL_dropBarrier_12 rfl rfl ?_
      refine z_getR C fl_L_9 dL_dropBarrier_13 h (fun t2 h => ?_)
      refine z_iload_n C 3 dL_dropBarrier_16 rfl rfl ?_
      refine z_iald C rfl dL_dropBarrier_17 h (fun t3 h => ?_)
      refine z_iconst (v := 1) C dL_dropBarrier_18 (by decide) ?_
      refine z_icmp_ne C 34 dL_dropBarrier_19 (by decide) h (fun h => ?_) (fun h => ?_)
      · exact bL_dropBarrier_34 C M ih V n a0 x1 x2 x3 h
      · refine z_aload_n C 0 dL_dropBarrier_22 rfl rfl ?_
        refine z_getR C fl_L_15 dL_dropBarrier_23 h (fun t4 h => ?_)
        refine z_iload_n C 3 dL_dropBarrier_26 rfl rfl ?_
        refine z_lald C rfl dL_dropBarrier_27 h (fun t5 h => ?_)
        refine z_iload_n C 1 dL_dropBarrier_28 rfl rfl ?_
        refine z_i2l C dL_dropBarrier_29 ?_
        refine z_lcmp C dL_dropBarrier_30 ?_
        refine z_if_eq C 61 dL_dropBarrier_31 (by decide) h (fun h => ?_) (fun h => ?_)
        · exact bL_dropBarrier_61 C M ih V n a0 x1 x2 x3 h
        · exact bL_dropBarrier_34 C M ih V n a0 x1 x2 x3 h
def fL_dropBarrier (V : zV) (n : Nat) (a0 : Nat) (x1 : Int32) : Option zR :=
    fL_dropBarrier_4 zF V n a0 x1 (0 : Int32) (0 : Int32)
set_option maxHeartbeats 4000000 in
set_option maxRecDepth 100000 in
theorem bL_dropBarrier {x : zX} {w : zR} (C : zC x prog_4_method_8_code "BarrierMarks$Line" "dropBarrier" 4 0 0 none) (M : zM x (zc w) (zs w)) : ∀ (V : zV) (n : Nat) (a0 : Nat) (x1 : Int32), fL_dropBarrier V n a0 x1 = some w → zZ x 4 0 0 w V n 0 [(0, va_rf (some a0)), (1, .int x1)] [] := by
  intro V n a0 x1 h
  unfold fL_dropBarrier at h
  refine z_iconst (v := 0) C dL_dropBarrier_0 (by decide) ?_
  refine z_istore_n (lv' := [(2, .int (0 : Int32)), (0, va_rf (some a0)), (1, .int x1)]) (i := 2) C dL_dropBarrier_1 rfl (by decide) rfl ?_
  refine z_iconst (v := 0) C dL_dropBarrier_2 (by decide) ?_
  refine z_istore_n (lv' := [(3, .int (0 : Int32)), (2, .int (0 : Int32)), (0, va_rf (some a0)), (1, .int x1)]) (i := 3) C dL_dropBarrier_3 rfl (by decide) rfl ?_
  refine z_sub [2, 3, 1, 0] rfl ?_
  exact bL_dropBarrier_4 C M zF V n a0 x1 (0 : Int32) (0 : Int32) h
theorem mL_dropBarrier {l : Launch} {D : va_G} {dA : Nat → ClassId} {V : zV} {n : Nat} (hl : l.stackTraces = false) {a0 : Nat} {x1 : Int32} {w : zR} (h : fL_dropBarrier V n a0 x1 = some w) : z_Met l ⟨"BarrierMarks$Line", "dropBarrier", "(I)V"⟩ prog_4_method_8_code 4 none 0 0 (zc w) (zs w) [.ref a0, .int x1] D dA V n w := by exact z_ofZ hl (by decide) (Nat.le_of_ble_eq_true rfl) (fun x C M => bL_dropBarrier C M V n a0 x1 h)
/-! BarrierMarks$Line.nextKind()I -/
def fL_nextKind (V : zV) (n : Nat) (a0 : Nat) : Option zR :=
    (zgI V (some a0) [2] 6).bind fun t1 =>
    if t1 ≤ 0 then (
    zrI (-1 : Int32) V n) else (
    (zgR V (some a0) [2] 4).bind fun t2 =>
    (zaI V t2 0 (0 : Int32)).bind fun t3 =>
    zrI t3 V n)
set_option maxHeartbeats 4000000 in
set_option maxRecDepth 100000 in
theorem bL_nextKind {x : zX} {w : zR} (C : zC x prog_4_method_3_code "BarrierMarks$Line" "nextKind" 1 0 0 (some .int)) (M : zM x (zc w) (zs w)) : ∀ (V : zV) (n : Nat) (a0 : Nat), fL_nextKind V n a0 = some w → zZ x 1 0 0 w V n 0 [(0, va_rf (some a0))] [] := by
  intro V n a0 h
  unfold fL_nextKind at h
  refine z_aload_n C 0 dL_nextKind_0 rfl rfl ?_
  refine z_getI C fl_L_19 dL_nextKind_1 h (fun t1 h => ?_)
  refine z_if_le C 16 dL_nextKind_4 (by decide) h (fun h => ?_) (fun h => ?_)
  · refine z_iconst (v := (-1)) C dL_nextKind_16 (by decide) ?_
    exact z_iret C M (Nat.zero_le _) (Nat.zero_le _) dL_nextKind_17 h
  · refine z_aload_n C 0 dL_nextKind_7 rfl rfl ?_
    refine z_getR C fl_L_9 dL_nextKind_8 h (fun t2 h => ?_)
    refine z_iconst (v := 0) C dL_nextKind_11 (by decide) ?_
    refine z_iald C rfl dL_nextKind_12 h (fun t3 h => ?_)
    refine z_goto C 17 dL_nextKind_13 (by decide) ?_
    exact z_iret C M (Nat.zero_le _) (Nat.zero_le _) dL_nextKind_17 h
theorem mL_nextKind {l : Launch} {D : va_G} {dA : Nat → ClassId} {V : zV} {n : Nat} (hl : l.stackTraces = false) {a0 : Nat} {w : zR} (h : fL_nextKind V n a0 = some w) : z_Met l ⟨"BarrierMarks$Line", "nextKind", "()I"⟩ prog_4_method_3_code 1 (some .int) 0 0 (zc w) (zs w) [.ref a0] D dA V n w := by exact z_ofZ hl (by decide) (Nat.le_of_ble_eq_true rfl) (fun x C M => bL_nextKind C M V n a0 h)
/-! BarrierMarks$Line.nextValue()J -/
def fL_nextValue (V : zV) (n : Nat) (a0 : Nat) : Option zR :=
    (zgI V (some a0) [2] 6).bind fun t1 =>
    if t1 ≤ 0 then (
    zrL (0 : Int64) V n) else (
    (zgR V (some a0) [2] 5).bind fun t2 =>
    (zaL V t2 1 (0 : Int32)).bind fun t3 =>
    zrL t3 V n)
set_option maxHeartbeats 4000000 in
set_option maxRecDepth 100000 in
theorem bL_nextValue {x : zX} {w : zR} (C : zC x prog_4_method_4_code "BarrierMarks$Line" "nextValue" 1 0 0 (some .long)) (M : zM x (zc w) (zs w)) : ∀ (V : zV) (n : Nat) (a0 : Nat), fL_nextValue V n a0 = some w → zZ x 1 0 0 w V n 0 [(0, va_rf (some a0))] [] := by
  intro V n a0 h
  unfold fL_nextValue at h
  refine z_aload_n C 0 dL_nextValue_0 rfl rfl ?_
  refine z_getI C fl_L_19 dL_nextValue_1 h (fun t1 h => ?_)
  refine z_if_le C 16 dL_nextValue_4 (by decide) h (fun h => ?_) (fun h => ?_)
  · refine z_lconst (v := 0) C dL_nextValue_16 (by decide) ?_
    exact z_lret C M (Nat.zero_le _) (Nat.zero_le _) dL_nextValue_17 h
  · refine z_aload_n C 0 dL_nextValue_7 rfl rfl ?_
    refine z_getR C fl_L_15 dL_nextValue_8 h (fun t2 h => ?_)
    refine z_iconst (v := 0) C dL_nextValue_11 (by decide) ?_
    refine z_lald C rfl dL_nextValue_12 h (fun t3 h => ?_)
    refine z_goto C 17 dL_nextValue_13 (by decide) ?_
    exact z_lret C M (Nat.zero_le _) (Nat.zero_le _) dL_nextValue_17 h
theorem mL_nextValue {l : Launch} {D : va_G} {dA : Nat → ClassId} {V : zV} {n : Nat} (hl : l.stackTraces = false) {a0 : Nat} {w : zR} (h : fL_nextValue V n a0 = some w) : z_Met l ⟨"BarrierMarks$Line", "nextValue", "()J"⟩ prog_4_method_4_code 1 (some .long) 0 0 (zc w) (zs w) [.ref a0] D dA V n w := by exact z_ofZ hl (by decide) (Nat.le_of_ble_eq_true rfl) (fun x C M => bL_nextValue C M V n a0 h)
/-! BarrierMarks$Line.passNext()V -/
def fL_passNext (V : zV) (n : Nat) (a0 : Nat) : Option zR :=
    (zgI V (some a0) [2] 6).bind fun t1 =>
    if t1 ≤ 0 then (
    zrV V n) else (
    (zgI V (some a0) [2] 6).bind fun t2 =>
    (zpI V (some a0) [2] 6 ((t2 - (1 : Int32)))).bind fun V =>
    (zgR V (some a0) [2] 4).bind fun t3 =>
    (zgR V (some a0) [2] 4).bind fun t4 =>
    (zgI V (some a0) [2] 6).bind fun t5 =>
    if t4 = t3 then (
    (zcpI V t4 0 (1 : Int32) (0 : Int32) t5).bind fun V =>
    (zgR V (some a0) [2] 5).bind fun t6 =>
    (zgR V (some a0) [2] 5).bind fun t7 =>
    (zgI V (some a0) [2] 6).bind fun t8 =>
    if t7 = t6 then (
    (zcpL V t7 1 (1 : Int32) (0 : Int32) t8).bind fun V =>
    zrV V n) else none) else none)
set_option maxHeartbeats 4000000 in
set_option maxRecDepth 100000 in
theorem bL_passNext {x : zX} {w : zR} (C : zC x prog_4_method_5_code "BarrierMarks$Line" "passNext" 1 1 18 none) (M : zM x (zc w) (zs w)) : ∀ (V : zV) (n : Nat) (a0 : Nat), fL_passNext V n a0 = some w → zZ x 1 0 0 w V n 0 [(0, va_rf (some a0))] [] := by
  intro V n a0 h
  unfold fL_passNext at h
  refine z_aload_n C 0 dL_passNext_0 rfl rfl ?_
  refine z_getI C fl_L_19 dL_passNext_1 h (fun t1 h => ?_)
  refine z_if_le C 51 dL_passNext_4 (by decide) h (fun h => ?_) (fun h => ?_)
  · exact z_vret C M (Nat.zero_le _) (Nat.zero_le _) dL_passNext_51 h
  · refine z_aload_n C 0 dL_passNext_7 rfl rfl ?_
    refine z_dup C dL_passNext_8 (zrfcat _) ?_
    refine z_getI C fl_L_19 dL_passNext_9 h (fun t2 h => ?_)
    refine z_iconst (v := 1) C dL_passNext_12 (by decide) ?_
    refine z_isub C dL_passNext_13 ?_
    refine z_putI C pf_L_19 (fun h => absurd h (by decide)) dL_passNext_14 h (fun V h => ?_)
    refine z_aload_n C 0 dL_passNext_17 rfl rfl ?_
    refine z_getR C fl_L_9 dL_passNext_18 h (fun t3 h => ?_)
    refine z_iconst (v := 1) C dL_passNext_21 (by decide) ?_
    refine z_aload_n C 0 dL_passNext_22 rfl rfl ?_
    refine z_getR C fl_L_9 dL_passNext_23 h (fun t4 h => ?_)
    refine z_iconst (v := 0) C dL_passNext_26 (by decide) ?_
    refine z_aload_n C 0 dL_passNext_27 rfl rfl ?_
    refine z_getI C fl_L_19 dL_passNext_28 h (fun t5 h => ?_)
    by_cases hq9 : t4 = t3
    rotate_left
    · rw [if_neg hq9] at h; cases h
    rw [if_pos hq9] at h
    refine z_copyI2 C hq9 rfl al_L_23 an_ as_ ai_ (by decide) (by decide) dL_passNext_31 h (fun V h => ?_)
    refine z_aload_n C 0 dL_passNext_34 rfl rfl ?_
    refine z_getR C fl_L_15 dL_passNext_35 h (fun t6 h => ?_)
    refine z_iconst (v := 1) C dL_passNext_38 (by decide) ?_
    refine z_aload_n C 0 dL_passNext_39 rfl rfl ?_
    refine z_getR C fl_L_15 dL_passNext_40 h (fun t7 h => ?_)
    refine z_iconst (v := 0) C dL_passNext_43 (by decide) ?_
    refine z_aload_n C 0 dL_passNext_44 rfl rfl ?_
    refine z_getI C fl_L_19 dL_passNext_45 h (fun t8 h => ?_)
    by_cases hq9 : t7 = t6
    rotate_left
    · rw [if_neg hq9] at h; cases h
    rw [if_pos hq9] at h
    refine z_copyL2 C hq9 rfl al_L_23 an_ as_ ai_ (by decide) (by decide) dL_passNext_48 h (fun V h => ?_)
    exact z_vret C M (Nat.zero_le _) (Nat.zero_le _) dL_passNext_51 h
theorem mL_passNext {l : Launch} {D : va_G} {dA : Nat → ClassId} {V : zV} {n : Nat} (hl : l.stackTraces = false) {a0 : Nat} {w : zR} (h : fL_passNext V n a0 = some w) : z_Met l ⟨"BarrierMarks$Line", "passNext", "()V"⟩ prog_4_method_5_code 1 none 1 18 (zc w) (zs w) [.ref a0] D dA V n w := by exact z_ofZ hl (by decide) (Nat.le_of_ble_eq_true rfl) (fun x C M => bL_passNext C M V n a0 h)
/-! BarrierMarks$Line.put(IJ)V -/
def fL_put (V : zV) (n : Nat) (a0 : Nat) (x1 : Int32) (x2 : Int64) : Option zR :=
    (zgI V (some a0) [2] 6).bind fun t1 =>
    (zgR V (some a0) [2] 4).bind fun t2 =>
    (zalen V t2 0).bind fun t3 =>
    if t3 ≤ t1 then (
    zrV V n) else (
    (zgR V (some a0) [2] 4).bind fun t4 =>
    (zgI V (some a0) [2] 6).bind fun t5 =>
    (zsI V t4 0 t5 x1).bind fun V =>
    (zgR V (some a0) [2] 5).bind fun t6 =>
    (zgI V (some a0) [2] 6).bind fun t7 =>
    (zsL V t6 1 t7 x2).bind fun V =>
    (zgI V (some a0) [2] 6).bind fun t8 =>
    (zpI V (some a0) [2] 6 ((t8 + (1 : Int32)))).bind fun V =>
    zrV V n)
set_option maxHeartbeats 4000000 in
set_option maxRecDepth 100000 in
theorem bL_put {x : zX} {w : zR} (C : zC x prog_4_method_2_code "BarrierMarks$Line" "put" 4 0 0 none) (M : zM x (zc w) (zs w)) : ∀ (V : zV) (n : Nat) (a0 : Nat) (x1 : Int32) (x2 : Int64), fL_put V n a0 x1 x2 = some w → zZ x 4 0 0 w V n 0 [(0, va_rf (some a0)), (1, .int x1), (2, .long x2)] [] := by
  intro V n a0 x1 x2 h
  unfold fL_put at h
  refine z_aload_n C 0 dL_put_0 rfl rfl ?_
  refine z_getI C fl_L_19 dL_put_1 h (fun t1 h => ?_)
  refine z_aload_n C 0 dL_put_4 rfl rfl ?_
  refine z_getR C fl_L_9 dL_put_5 h (fun t2 h => ?_)
  refine z_alen C rfl dL_put_8 h (fun t3 h => ?_)
  refine z_icmp_ge C 42 dL_put_9 (by decide) h (fun h => ?_) (fun h => ?_)
  · exact z_vret C M (Nat.zero_le _) (Nat.zero_le _) dL_put_42 h
  · refine z_aload_n C 0 dL_put_12 rfl rfl ?_
    refine z_getR C fl_L_9 dL_put_13 h (fun t4 h => ?_)
    refine z_aload_n C 0 dL_put_16 rfl rfl ?_
    refine z_getI C fl_L_19 dL_put_17 h (fun t5 h => ?_)
    refine z_iload_n C 1 dL_put_20 rfl rfl ?_
    refine z_iast C rfl dL_put_21 h (fun V h => ?_)
    refine z_aload_n C 0 dL_put_22 rfl rfl ?_
    refine z_getR C fl_L_15 dL_put_23 h (fun t6 h => ?_)
    refine z_aload_n C 0 dL_put_26 rfl rfl ?_
    refine z_getI C fl_L_19 dL_put_27 h (fun t7 h => ?_)
    refine z_lload_n C 2 dL_put_30 rfl rfl ?_
    refine z_last C rfl dL_put_31 h (fun V h => ?_)
    refine z_aload_n C 0 dL_put_32 rfl rfl ?_
    refine z_dup C dL_put_33 (zrfcat _) ?_
    refine z_getI C fl_L_19 dL_put_34 h (fun t8 h => ?_)
    refine z_iconst (v := 1) C dL_put_37 (by decide) ?_
    refine z_iadd C dL_put_38 ?_
    refine z_putI C pf_L_19 (fun h => absurd h (by decide)) dL_put_39 h (fun V h => ?_)
    exact z_vret C M (Nat.zero_le _) (Nat.zero_le _) dL_put_42 h
theorem mL_put {l : Launch} {D : va_G} {dA : Nat → ClassId} {V : zV} {n : Nat} (hl : l.stackTraces = false) {a0 : Nat} {x1 : Int32} {x2 : Int64} {w : zR} (h : fL_put V n a0 x1 x2 = some w) : z_Met l ⟨"BarrierMarks$Line", "put", "(IJ)V"⟩ prog_4_method_2_code 4 none 0 0 (zc w) (zs w) [.ref a0, .int x1, .long x2] D dA V n w := by exact z_ofZ hl (by decide) (Nat.le_of_ble_eq_true rfl) (fun x C M => bL_put C M V n a0 x1 x2 h)
/-! BarrierMarks$Line.goBack(I)V -/
def fL_goBack (V : zV) (n : Nat) (a0 : Nat) (x1 : Int32) : Option zR :=
    (zpI V (some a0) [2] 6 (0 : Int32)).bind fun V =>
    zrV V n
set_option maxHeartbeats 4000000 in
set_option maxRecDepth 100000 in
theorem bL_goBack {x : zX} {w : zR} (C : zC x prog_4_method_9_code "BarrierMarks$Line" "goBack" 2 0 0 none) (M : zM x (zc w) (zs w)) : ∀ (V : zV) (n : Nat) (a0 : Nat) (x1 : Int32), fL_goBack V n a0 x1 = some w → zZ x 2 0 0 w V n 0 [(0, va_rf (some a0)), (1, .int x1)] [] := by
  intro V n a0 x1 h
  unfold fL_goBack at h
  refine z_aload_n C 0 dL_goBack_0 rfl rfl ?_
  refine z_iconst (v := 0) C dL_goBack_1 (by decide) ?_
  refine z_putI C pf_L_19 (fun h => absurd h (by decide)) dL_goBack_2 h (fun V h => ?_)
  exact z_vret C M (Nat.zero_le _) (Nat.zero_le _) dL_goBack_5 h
theorem mL_goBack {l : Launch} {D : va_G} {dA : Nat → ClassId} {V : zV} {n : Nat} (hl : l.stackTraces = false) {a0 : Nat} {x1 : Int32} {w : zR} (h : fL_goBack V n a0 x1 = some w) : z_Met l ⟨"BarrierMarks$Line", "goBack", "(I)V"⟩ prog_4_method_9_code 2 none 0 0 (zc w) (zs w) [.ref a0, .int x1] D dA V n w := by exact z_ofZ hl (by decide) (Nat.le_of_ble_eq_true rfl) (fun x C M => bL_goBack C M V n a0 x1 h)
/-! BarrierMarks$Line.left()I -/
def fL_left (V : zV) (n : Nat) (a0 : Nat) : Option zR :=
    (zgI V (some a0) [2] 6).bind fun t1 =>
    zrI t1 V n
set_option maxHeartbeats 4000000 in
set_option maxRecDepth 100000 in
theorem bL_left {x : zX} {w : zR} (C : zC x prog_4_method_6_code "BarrierMarks$Line" "left" 1 0 0 (some .int)) (M : zM x (zc w) (zs w)) : ∀ (V : zV) (n : Nat) (a0 : Nat), fL_left V n a0 = some w → zZ x 1 0 0 w V n 0 [(0, va_rf (some a0))] [] := by
  intro V n a0 h
  unfold fL_left at h
  refine z_aload_n C 0 dL_left_0 rfl rfl ?_
  refine z_getI C fl_L_19 dL_left_1 h (fun t1 h => ?_)
  exact z_iret C M (Nat.zero_le _) (Nat.zero_le _) dL_left_4 h
theorem mL_left {l : Launch} {D : va_G} {dA : Nat → ClassId} {V : zV} {n : Nat} (hl : l.stackTraces = false) {a0 : Nat} {w : zR} (h : fL_left V n a0 = some w) : z_Met l ⟨"BarrierMarks$Line", "left", "()I"⟩ prog_4_method_6_code 1 (some .int) 0 0 (zc w) (zs w) [.ref a0] D dA V n w := by exact z_ofZ hl (by decide) (Nat.le_of_ble_eq_true rfl) (fun x C M => bL_left C M V n a0 h)
