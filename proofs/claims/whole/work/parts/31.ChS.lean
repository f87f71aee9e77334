/-! BarrierMarks$Channel.<init>(II)V -/
def fCh_init (V : zV) (n : Nat) (a0 : Nat) (x1 : Int32) (x2 : Int32) : Option zR :=
    (zpI V (some a0) [1, 2] 2 (-1 : Int32)).bind fun V =>
    (zpI V (some a0) [1, 2] 0 x1).bind fun V =>
    (zpI V (some a0) [1, 2] 1 x2).bind fun V =>
    zrV V n
set_option maxHeartbeats 4000000 in
set_option maxRecDepth 100000 in
theorem bCh_init {x : zX} {w : zR} (C : zC x prog_3_method_1_code "BarrierMarks$Channel" "<init>" 3 1 12 none) (M : zM x 0 0) : ∀ (V : zV) (n : Nat) (a0 : Nat) (x1 : Int32) (x2 : Int32), fCh_init V n a0 x1 x2 = some w → zZ x 3 0 0 w V n 0 [(0, va_rf (some a0)), (1, .int x1), (2, .int x2)] [] := by
  intro V n a0 x1 x2 h
  unfold fCh_init at h
  refine z_aload_n C 0 dCh_init_0 rfl rfl ?_
  refine z_objInit C ol_Ch_3 oi_ oc_ (by decide) (by first | decide | (simp [zrfcat, zicat, zlcat]; done)) dCh_init_1 ?_
  refine z_aload_n C 0 dCh_init_4 rfl rfl ?_
  refine z_iconst (v := (-1)) C dCh_init_5 (by decide) ?_
  refine z_putI C pf_Ch_9 (fun h => absurd h (by decide)) dCh_init_6 h (fun V h => ?_)
  refine z_aload_n C 0 dCh_init_9 rfl rfl ?_
  refine z_iload_n C 1 dCh_init_10 rfl rfl ?_
  refine z_putI C pf_Ch_15 (fun _ => rfl) dCh_init_11 h (fun V h => ?_)
  refine z_aload_n C 0 dCh_init_14 rfl rfl ?_
  refine z_iload_n C 2 dCh_init_15 rfl rfl ?_
  refine z_putI C pf_Ch_18 (fun _ => rfl) dCh_init_16 h (fun V h => ?_)
  exact z_vret C M (by decide) (by decide) dCh_init_19 h
theorem mCh_init {l : Launch} {D : va_G} {dA : Nat → ClassId} {V : zV} {n : Nat} (hl : l.stackTraces = false) {a0 : Nat} {x1 : Int32} {x2 : Int32} {w : zR} (h : fCh_init V n a0 x1 x2 = some w) : z_Met l ⟨"BarrierMarks$Channel", "<init>", "(II)V"⟩ prog_3_method_1_code 3 none 1 12 0 0 [.ref a0, .int x1, .int x2] D dA V n w := by exact z_ofZ hl (by decide) (Nat.le_of_ble_eq_true rfl) (fun x C M => bCh_init C M V n a0 x1 x2 h)
/-! BarrierMarks$Source.<init>(I)V -/
def fS_init (V : zV) (n : Nat) (a0 : Nat) (x1 : Int32) : Option zR :=
    zdV (fCh_init V n a0 (-1 : Int32) x1) fun V n =>
    znwa V n 1 200 (200 : Int32) (.inr (.inl (fun _ => 0))) fun t1 V n =>
    (zpR V (some a0) [1] 4 (some t1)).bind fun V =>
    znwa V n 0 40 (40 : Int32) (.inl (fun _ => 0)) fun t2 V n =>
    (zpR V (some a0) [1] 5 (some t2)).bind fun V =>
    znwa V n 1 40 (40 : Int32) (.inr (.inl (fun _ => 0))) fun t3 V n =>
    (zpR V (some a0) [1] 6 (some t3)).bind fun V =>
    znwa V n 0 3 (3 : Int32) (.inl (fun _ => 0)) fun t4 V n =>
    (zpR V (some a0) [1] 7 (some t4)).bind fun V =>
    zrV V n
set_option maxHeartbeats 4000000 in
set_option maxRecDepth 100000 in
theorem bS_init {x : zX} {w : zR} (C : zC x prog_6_method_1_code "BarrierMarks$Source" "<init>" 2 2 34 none) (M : zM x 4 283) : ∀ (V : zV) (n : Nat) (a0 : Nat) (x1 : Int32), fS_init V n a0 x1 = some w → zZ x 2 0 0 w V n 0 [(0, va_rf (some a0)), (1, .int x1)] [] := by
  intro V n a0 x1 h
  unfold fS_init at h
  refine z_aload_n C 0 dS_init_0 rfl rfl ?_
  refine z_iconst (v := (-1)) C dS_init_1 (by decide) ?_
  refine z_iload_n C 1 dS_init_2 rfl rfl ?_
  refine z_iS (mc1 := 0) (ms1 := 0) (b := a0) C M (by decide) (by decide) [.int (-1 : Int32), .int x1] cn_S_3 (by decide) (by decide) rfl rfl (Nat.zero_le _) dS_init_3 h (fun w1 e1 l D dA hl => mCh_init hl e1) (fun V n h => ?_)
  refine z_aload_n C 0 dS_init_6 rfl rfl ?_
  refine z_sipush (v := 200) C dS_init_7 (by decide) ?_
  refine z_newaK (at9 := .long) C M rfl rfl na_1 (fun _ _ => rfl) (fun _ _ => rfl) (by decide) (by decide) (by decide) dS_init_10 h (fun t1 V n h => ?_)
  refine z_putR C pf_S_9 zfitA (fun _ => rfl) dS_init_12 h (fun V h => ?_)
  refine z_aload_n C 0 dS_init_15 rfl rfl ?_
  refine z_bipush (v := 40) C dS_init_16 (by decide) ?_
  refine z_newaK (at9 := .int) C M rfl rfl na_0 (fun _ _ => rfl) (fun _ _ => rfl) (by decide) (by decide) (by decide) dS_init_18 h (fun t2 V n h => ?_)
  refine z_putR C pf_S_15 zfitA (fun _ => rfl) dS_init_20 h (fun V h => ?_)
  refine z_aload_n C 0 dS_init_23 rfl rfl ?_
  refine z_bipush (v := 40) C dS_init_24 (by decide) ?_
  refine z_newaK (at9 := .long) C M rfl rfl na_1 (fun _ _ => rfl) (fun _ _ => rfl) (by decide) (by decide) (by decide) dS_init_26 h (fun t3 V n h => ?_)
  refine z_putR C pf_S_19 zfitA (fun _ => rfl) dS_init_28 h (fun V h => ?_)
  refine z_aload_n C 0 dS_init_31 rfl rfl ?_
  refine z_iconst (v := 3) C dS_init_32 (by decide) ?_
  refine z_newaK (at9 := .int) C M rfl rfl na_0 (fun _ _ => rfl) (fun _ _ => rfl) (by decide) (by decide) (by decide) dS_init_33 h (fun t4 V n h => ?_)
  refine z_putR C pf_S_22 zfitA (fun _ => rfl) dS_init_35 h (fun V h => ?_)
  exact z_vret C M (by decide) (by decide) dS_init_38 h
theorem mS_init {l : Launch} {D : va_G} {dA : Nat → ClassId} {V : zV} {n : Nat} (hl : l.stackTraces = false) {a0 : Nat} {x1 : Int32} {w : zR} (h : fS_init V n a0 x1 = some w) : z_Met l ⟨"BarrierMarks$Source", "<init>", "(I)V"⟩ prog_6_method_1_code 2 none 2 34 4 283 [.ref a0, .int x1] D dA V n w := by exact z_ofZ hl (by decide) (Nat.le_of_ble_eq_true rfl) (fun x C M => bS_init C M V n a0 x1 h)
/-! BarrierMarks$Source.addRow(J)V -/
def fS_addRow (V : zV) (n : Nat) (a0 : Nat) (x1 : Int64) : Option zR :=
    (zgI V (some a0) [1] 9).bind fun t1 =>
    (zgR V (some a0) [1] 4).bind fun t2 =>
    (zalen V t2 1).bind fun t3 =>
    if t3 ≤ t1 then (
    zrV V n) else (
    (zgR V (some a0) [1] 4).bind fun t4 =>
    (zgI V (some a0) [1] 9).bind fun t5 =>
    (zsL V t4 1 t5 x1).bind fun V =>
    (zgI V (some a0) [1] 9).bind fun t6 =>
    (zpI V (some a0) [1] 9 ((t6 + (1 : Int32)))).bind fun V =>
    (zgL V (some a0) [1] 10).bind fun t7 =>
    (zpL V (some a0) [1] 10 (t7 + x1)).bind fun V =>
    zrV V n)
set_option maxHeartbeats 4000000 in
set_option maxRecDepth 100000 in
theorem bS_addRow {x : zX} {w : zR} (C : zC x prog_6_method_2_code "BarrierMarks$Source" "addRow" 3 0 0 none) (M : zM x (zc w) (zs w)) : ∀ (V : zV) (n : Nat) (a0 : Nat) (x1 : Int64), fS_addRow V n a0 x1 = some w → zZ x 3 0 0 w V n 0 [(0, va_rf (some a0)), (1, .long x1)] [] := by
  intro V n a0 x1 h
  unfold fS_addRow at h
  refine z_aload_n C 0 dS_addRow_0 rfl rfl ?_
  refine z_getI C fl_S_25 dS_addRow_1 h (fun t1 h => ?_)
  refine z_aload_n C 0 dS_addRow_4 rfl rfl ?_
  refine z_getR C fl_S_9 dS_addRow_5 h (fun t2 h => ?_)
  refine z_alen C rfl dS_addRow_8 h (fun t3 h => ?_)
  refine z_icmp_ge C 42 dS_addRow_9 (by decide) h (fun h => ?_) (fun h => ?_)
  · exact z_vret C M (Nat.zero_le _) (Nat.zero_le _) dS_addRow_42 h
  · refine z_aload_n C 0 dS_addRow_12 rfl rfl ?_
    refine z_getR C fl_S_9 dS_addRow_13 h (fun t4 h => ?_)
    refine z_aload_n C 0 dS_addRow_16 rfl rfl ?_
    refine z_getI C fl_S_25 dS_addRow_17 h (fun t5 h => ?_)
    refine z_lload_n C 1 dS_addRow_20 rfl rfl ?_
    refine z_last C rfl dS_addRow_21 h (fun V h => ?_)
    refine z_aload_n C 0 dS_addRow_22 rfl rfl ?_
    refine z_dup C dS_addRow_23 (zrfcat _) ?_
    refine z_getI C fl_S_25 dS_addRow_24 h (fun t6 h => ?_)
    refine z_iconst (v := 1) C dS_addRow_27 (by decide) ?_
    refine z_iadd C dS_addRow_28 ?_
    refine z_putI C pf_S_25 (fun h => absurd h (by decide)) dS_addRow_29 h (fun V h => ?_)
    refine z_aload_n C 0 dS_addRow_32 rfl rfl ?_
    refine z_dup C dS_addRow_33 (zrfcat _) ?_
    refine z_getL C fl_S_29 dS_addRow_34 h (fun t7 h => ?_)
    refine z_lload_n C 1 dS_addRow_37 rfl rfl ?_
    refine z_ladd C dS_addRow_38 ?_
    refine z_putL C pf_S_29 (fun h => absurd h (by decide)) dS_addRow_39 h (fun V h => ?_)
    exact z_vret C M (Nat.zero_le _) (Nat.zero_le _) dS_addRow_42 h
theorem mS_addRow {l : Launch} {D : va_G} {dA : Nat → ClassId} {V : zV} {n : Nat} (hl : l.stackTraces = false) {a0 : Nat} {x1 : Int64} {w : zR} (h : fS_addRow V n a0 x1 = some w) : z_Met l ⟨"BarrierMarks$Source", "addRow", "(J)V"⟩ prog_6_method_2_code 3 none 0 0 (zc w) (zs w) [.ref a0, .long x1] D dA V n w := by exact z_ofZ hl (by decide) (Nat.le_of_ble_eq_true rfl) (fun x C M => bS_addRow C M V n a0 x1 h)
/-! BarrierMarks$Source.beginMark(I)V -/
def fS_beginMark (V : zV) (n : Nat) (a0 : Nat) (x1 : Int32) : Option zR :=
    if x1 < 0 then (
    zrV V n) else (
    (zgR V (some a0) [1] 5).bind fun t1 =>
    (zalen V t1 0).bind fun t2 =>
    if t2 ≤ x1 then (
    zrV V n) else (
    (zgI V (some a0) [1] 8).bind fun t3 =>
    (zgR V (some a0) [1] 7).bind fun t4 =>
    (zalen V t4 0).bind fun t5 =>
    if t5 ≤ t3 then (
    zrV V n) else (
    (zgR V (some a0) [1] 5).bind fun t6 =>
    (zgI V (some a0) [1] 9).bind fun t7 =>
    (zsI V t6 0 x1 t7).bind fun V =>
    (zgR V (some a0) [1] 6).bind fun t8 =>
    (zgL V (some a0) [1] 10).bind fun t9 =>
    (zsL V t8 1 x1 t9).bind fun V =>
    (zgR V (some a0) [1] 7).bind fun t10 =>
    (zgI V (some a0) [1] 8).bind fun t11 =>
    (zsI V t10 0 t11 x1).bind fun V =>
    (zgI V (some a0) [1] 8).bind fun t12 =>
    (zpI V (some a0) [1] 8 ((t12 + (1 : Int32)))).bind fun V =>
    zrV V n)))
set_option maxHeartbeats 4000000 in
set_option maxRecDepth 100000 in
theorem bS_beginMark {x : zX} {w : zR} (C : zC x prog_6_method_8_code "BarrierMarks$Source" "beginMark" 2 0 0 none) (M : zM x (zc w) (zs w)) : ∀ (V : zV) (n : Nat) (a0 : Nat) (x1 : Int32), fS_beginMark V n a0 x1 = some w → zZ x 2 0 0 w V n 0 [(0, va_rf (some a0)), (1, .int x1)] [] := by
  intro V n a0 x1 h
  unfold fS_beginMark at h
  refine z_iload_n C 1 dS_beginMark_0 rfl rfl ?_
  refine z_if_lt C 65 dS_beginMark_1 (by decide) h (fun h => ?_) (fun h => ?_)
  · exact z_vret C M (Nat.zero_le _) (Nat.zero_le _) dS_beginMark_65 h
  · refine z_iload_n C 1 dS_beginMark_4 rfl rfl ?_
    refine z_aload_n C 0 dS_beginMark_5 rfl rfl ?_
    refine z_getR C fl_S_15 dS_beginMark_6 h (fun t1 h => ?_)
    refine z_alen C rfl dS_beginMark_9 h (fun t2 h => ?_)
    refine z_icmp_ge C 65 dS_beginMark_10 (by decide) h (fun h => ?_) (fun h => ?_)
    · exact z_vret C M (Nat.zero_le _) (Nat.zero_le _) dS_beginMark_65 h
    · refine z_aload_n C 0 dS_beginMark_13 rfl rfl ?_
      refine z_getI C fl_S_33 dS_beginMark_14 h (fun t3 h => ?_)
      refine z_aload_n C 0 dS_beginMark_17 rfl rfl ?_
      refine z_getR C fl_S_22 dS_beginMark_18 h (fun t4 h => ?_)
      refine z_alen C rfl dS_beginMark_21 h (fun t5 h => ?_)
      refine z_icmp_ge C 65 dS_beginMark_22 (by decide) h (fun h => ?_) (fun h => ?_)
      · exact z_vret C M (Nat.zero_le _) (Nat.zero_le _) dS_beginMark_65 h
      · refine z_aload_n C 0 dS_beginMark_25 rfl rfl ?_
        refine z_getR C fl_S_15 dS_beginMark_26 h (fun t6 h => ?_)
        refine z_iload_n C 1 dS_beginMark_29 rfl rfl ?_
        refine z_aload_n C 0 dS_beginMark_30 rfl rfl ?_
        refine z_getI C fl_S_25 dS_beginMark_31 h (fun t7 h => ?_)
        refine z_iast C rfl dS_beginMark_34 h (fun V h => ?_)
        refine z_aload_n C 0 dS_beginMark_35 rfl rfl ?_
        refine z_getR C fl_S_19 dS_beginMark_36 h (fun t8 h => ?_)
        refine z_iload_n C 1 dS_beginMark_39 rfl rfl ?_
        refine z_aload_n C 0 dS_beginMark_40 rfl rfl ?_
        refine z_getL C fl_S_29 dS_beginMark_41 h (fun t9 h => ?_)
        refine z_last C rfl dS_beginMark_44 h (fun V h => ?_)
        refine z_aload_n C 0 dS_beginMark_45 rfl rfl ?_
        refine z_getR C fl_S_22 dS_beginMark_46 h (fun t10 h => ?_)
        refine z_aload_n C 0 dS_beginMark_49 rfl rfl ?_
        refine z_getI C fl_S_33 dS_beginMark_50 h (fun t11 h => ?_)
        refine z_iload_n C 1 dS_beginMark_53 rfl rfl ?_
        refine z_iast C rfl dS_beginMark_54 h (fun V h => ?_)
        refine z_aload_n C 0 dS_beginMark_55 rfl rfl ?_
        refine z_dup C dS_beginMark_56 (zrfcat _) ?_
        refine z_getI C fl_S_33 dS_beginMark_57 h (fun t12 h => ?_)
        refine z_iconst (v := 1) C dS_beginMark_60 (by decide) ?_
        refine z_iadd C dS_beginMark_61 ?_
        refine z_putI C pf_S_33 (fun h => absurd h (by decide)) dS_beginMark_62 h (fun V h => ?_)
        exact z_vret C M (Nat.zero_le _) (Nat.zero_le _) dS_beginMark_65 h
theorem mS_beginMark {l : Launch} {D : va_G} {dA : Nat → ClassId} {V : zV} {n : Nat} (hl : l.stackTraces = false) {a0 : Nat} {x1 : Int32} {w : zR} (h : fS_beginMark V n a0 x1 = some w) : z_Met l ⟨"BarrierMarks$Source", "beginMark", "(I)V"⟩ prog_6_method_8_code 2 none 0 0 (zc w) (zs w) [.ref a0, .int x1] D dA V n w := by exact z_ofZ hl (by decide) (Nat.le_of_ble_eq_true rfl) (fun x C M => bS_beginMark C M V n a0 x1 h)
/-! BarrierMarks$Source.dropBarrier(I)V -/
def fS_dropBarrier_37 (K4 : zV → Nat → Nat → Int32 → Int32 → Int32 → Option zR) (V : zV) (n : Nat) (a0 : Nat) (x1 : Int32) (x2 : Int32) (x3 : Int32) : Option zR :=
    K4 V n a0 x1 x2 (x3 + 1)
set_option maxHeartbeats 4000000 in
set_option maxRecDepth 100000 in
theorem bS_dropBarrier_37 {x : zX} {w : zR} {K4 : zV → Nat → Nat → Int32 → Int32 → Int32 → Option zR} (C : zC x prog_6_method_9_code "BarrierMarks$Source" "dropBarrier" 4 0 0 none) (M : zM x (zc w) (zs w)) (hK4 : ∀ (V : zV) (n : Nat) (a0 : Nat) (x1 : Int32) (x2 : Int32) (x3 : Int32), K4 V n a0 x1 x2 x3 = some w → zZ x 4 0 0 w V n 4 [(0, va_rf (some a0)), (1, .int x1), (2, .int x2), (3, .int x3)] []) : ∀ (V : zV) (n : Nat) (a0 : Nat) (x1 : Int32) (x2 : Int32) (x3 : Int32), fS_dropBarrier_37 K4 V n a0 x1 x2 x3 = some w → zZ x 4 0 0 w V n 37 [(0, va_rf (some a0)), (1, .int x1), (2, .int x2), (3, .int x3)] [] := by
  intro V n a0 x1 x2 x3 h
  unfold fS_dropBarrier_37 at h
  refine z_iinc (lv' := [(3, .int (x3 + 1)), (0, va_rf (some a0)), (1, .int x1), (2, .int x2)]) C 3 dS_dropBarrier_37 rfl rfl (by decide) rfl ?_
  refine z_goto C 4 dS_dropBarrier_40 (by decide) ?_
  refine z_sub [1, 2, 3, 0] rfl ?_
  exact hK4 V n a0 x1 x2 (x3 + 1) h
def fS_dropBarrier_4 : Nat → zV → Nat → Nat → Int32 → Int32 → Int32 → Option zR
  | 0 => fun _ _ _ _ _ _ => none
  | f9 + 1 => fun V n a0 x1 x2 x3 =>
    (zgI V (some a0) [1] 8).bind fun t1 =>
    if t1 ≤ x3 then (
    (zpI V (some a0) [1] 8 x2).bind fun V =>
    zrV V n) else (
    (zgR V (some a0) [1] 7).bind fun t2 =>
    (zaI V t2 0 x3).bind fun t3 =>
    if t3 = x1 then (
    fS_dropBarrier_37 (fS_dropBarrier_4 f9) V n a0 x1 x2 x3) else (
    (zgR V (some a0) [1] 7).bind fun t4 =>
    (zgR V (some a0) [1] 7).bind fun t5 =>
    (zaI V t5 0 x3).bind fun t6 =>
    (zsI V t4 0 x2 t6).bind fun V =>
    fS_dropBarrier_37 (fS_dropBarrier_4 f9) V n a0 x1 (x2 + 1) x3))
set_option maxHeartbeats 4000000 in
set_option maxRecDepth 100000 in
theorem bS_dropBarrier_4 {x : zX} {w : zR} (C : zC x prog_6_method_9_code "BarrierMarks$Source" "dropBarrier" 4 0 0 none) (M : zM x (zc w) (zs w)) : ∀ (f9 : Nat) (V : zV) (n : Nat) (a0 : Nat) (x1 : Int32) (x2 : Int32) (x3 : Int32), fS_dropBarrier_4 f9 V n a0 x1 x2 x3 = some w → zZ x 4 0 0 w V n 4 [(0, va_rf (some a0)), (1, .int x1), (2, .int x2), (3, .int x3)] [] := by
  intro f9
  induction f9 with
  | zero =>
    intro V n a0 x1 x2 x3 h
    cases h
  | succ f9 ih =>
    intro V n a0 x1 x2 x3 h
    unfold fS_dropBarrier_4 at h
    refine z_iload_n C 3 dS_dropBarrier_4 rfl rfl ?_
    refine z_aload_n C 0 dS_dropBarrier_5 rfl rfl ?_
    refine z_getI C fl_S_33 dS_dropBarrier_6 h (fun t1 h => ?_)
    refine z_icmp_ge C 43 dS_dropBarrier_9 (by decide) h (fun h => ?_) (fun h => ?_)
    · refine z_aload_n C 0 dS_dropBarrier_43 rfl rfl ?_
      refine z_iload_n C 2 dS_dropBarrier_44 rfl rfl ?_
      refine z_putI C pf_S_33 (fun h => absurd h (by decide)) dS_dropBarrier_45 h (fun V h => ?_)
      exact z_vret C M (Nat.zero_le _) (Nat.zero_le _) dS_dropBarrier_48 h
    · refine z_aload_n C 0 dS_dropBarrier_12 rfl rfl ?_
      refine z_getR C fl_S_22 dS_dropBarrier_13 h (fun t2 h => ?_)
      refine z_iload_n C 3 dS_dropBarrier_16 rfl rfl ?_
      refine z_iald C rfl dS_dropBarrier_17 h (fun t3 h => ?_)
      refine z_iload_n C 1 dS_dropBarrier_18 rfl rfl ?_
      refine z_icmp_eq C 37 dS_dropBarrier_19 (by decide) h (fun h => ?_) (fun h => ?_)
      · exact bS_dropBarrier_37 C M ih V n a0 x1 x2 x3 h
      · refine z_aload_n C 0 dS_dropBarrier_22 rfl rfl ?_
        refine z_getR C fl_S_22 dS_dropBarrier_23 h (fun t4 h => ?_)
        refine z_iload_n C 2 dS_dropBarrier_26 rfl rfl ?_
        refine z_aload_n C 0 dS_dropBarrier_27 rfl rfl ?_
        refine z_getR C fl_S_22 dS_dropBarrier_28 h (fun t5 h => ?_)
        refine z_iload_n C 3 dS_dropBarrier_31 rfl rfl ?_
        refine z_iald C rfl dS_dropBarrier_32 h (fun t6 h => ?_)
        refine z_iast C rfl dS_dropBarrier_33 h (fun V h => ?_)
        refine z_iinc (lv' := [(2, .int (x2 + 1)), (0, va_rf (some a0)), (1, .int x1), (3, .int x3)]) C 2 dS_dropBarrier_34 rfl rfl (by decide) rfl ?_
        refine z_sub [1, 2, 0, 3] rfl ?_
        exact bS_dropBarrier_37 C M ih V n a0 x1 (x2 + 1) x3 h
def fS_dropBarrier (V : zV) (n : Nat) (a0 : Nat) (x1 : Int32) : Option zR :=
    fS_dropBarrier_4 zF V n a0 x1 (0 : Int32) (0 : Int32)
set_option maxHeartbeats 4000000 in
set_option maxRecDepth 100000 in
theorem bS_dropBarrier {x : zX} {w : zR} (C : zC x prog_6_method_9_code "BarrierMarks$Source" "dropBarrier" 4 0 0 none) (M : zM x (zc w) (zs w)) : ∀ (V : zV) (n : Nat) (a0 : Nat) (x1 : Int32), fS_dropBarrier V n a0 x1 = some w → zZ x 4 0 0 w V n 0 [(0, va_rf (some a0)), (1, .int x1)] [] := by
  intro V n a0 x1 h
  unfold fS_dropBarrier at h
  refine z_iconst (v := 0) C dS_dropBarrier_0 (by decide) ?_
  refine z_istore_n (lv' := [(2, .int (0 : Int32)), (0, va_rf (some a0)), (1, .int x1)]) (i := 2) C dS_dropBarrier_1 rfl (by decide) rfl ?_
  refine z_iconst (v := 0) C dS_dropBarrier_2 (by decide) ?_
  refine z_istore_n (lv' := [(3, .int (0 : Int32)), (2, .int (0 : Int32)), (0, va_rf (some a0)), (1, .int x1)]) (i := 3) C dS_dropBarrier_3 rfl (by decide) rfl ?_
  refine z_sub [2, 3, 1, 0] rfl ?_
  exact bS_dropBarrier_4 C M zF V n a0 x1 (0 : Int32) (0 : Int32) h
theorem mS_dropBarrier {l : Launch} {D : va_G} {dA : Nat → ClassId} {V : zV} {n : Nat} (hl : l.stackTraces = false) {a0 : Nat} {x1 : Int32} {w : zR} (h : fS_dropBarrier V n a0 x1 = some w) : z_Met l ⟨"BarrierMarks$Source", "dropBarrier", "(I)V"⟩ prog_6_method_9_code 4 none 0 0 (zc w) (zs w) [.ref a0, .int x1] D dA V n w := by exact z_ofZ hl (by decide) (Nat.le_of_ble_eq_true rfl) (fun x C M => bS_dropBarrier C M V n a0 x1 h)
/-! BarrierMarks$Source.barrierIsNext()Z -/
def fS_barrierIsNext_29 (V : zV) (n : Nat) : Option zR :=
    zrZ (0 : Int32) V n
set_option maxHeartbeats 4000000 in
set_option maxRecDepth 100000 in
theorem bS_barrierIsNext_29 {x : zX} {w : zR} (C : zC x prog_6_method_3_code "BarrierMarks$Source" "barrierIsNext" 1 0 0 (some .boolean)) (M : zM x (zc w) (zs w)) : ∀ (V : zV) (n : Nat), fS_barrierIsNext_29 V n = some w → zZ x 1 0 0 w V n 29 [] [] := by
  intro V n h
  unfold fS_barrierIsNext_29 at h
  refine z_iconst (v := 0) C dS_barrierIsNext_29 (by decide) ?_
  exact z_zret C M (Nat.zero_le _) (Nat.zero_le _) dS_barrierIsNext_30 h
def fS_barrierIsNext (V : zV) (n : Nat) (a0 : Nat) : Option zR :=
    (zgI V (some a0) [1] 8).bind fun t1 =>
    if t1 ≤ 0 then (
    fS_barrierIsNext_29 V n) else (
    (zgR V (some a0) [1] 5).bind fun t2 =>
    (zgR V (some a0) [1] 7).bind fun t3 =>
    (zaI V t3 0 (0 : Int32)).bind fun t4 =>
    (zaI V t2 0 t4).bind fun t5 =>
    (zgI V (some a0) [1] 11).bind fun t6 =>
    if t5 = t6 then (
    zrZ (1 : Int32) V n) else (
    fS_barrierIsNext_29 V n))
set_option maxHeartbeats 4000000 in
set_option maxRecDepth 100000 in
theorem bS_barrierIsNext {x : zX} {w : zR} (C : zC x prog_6_method_3_code "BarrierMarks$Source" "barrierIsNext" 1 0 0 (some .boolean)) (M : zM x (zc w) (zs w)) : ∀ (V : zV) (n : Nat) (a0 : Nat), fS_barrierIsNext V n a0 = some w → zZ x 1 0 0 w V n 0 [(0, va_rf (some a0))] [] := by
  intro V n a0 h
  unfold fS_barrierIsNext at h
  refine z_aload_n C 0 dS_barrierIsNext_0 rfl rfl ?_
  refine z_getI C fl_S_33 dS_barrierIsNext_1 h (fun t1 h => ?_)
  refine z_if_le C 29 dS_barrierIsNext_4 (by decide) h (fun h => ?_) (fun h => ?_)
  · refine z_sub [] rfl ?_
    exact bS_barrierIsNext_29 C M V n h
  · refine z_aload_n C 0 dS_barrierIsNext_7 rfl rfl ?_
    refine z_getR C fl_S_15 dS_barrierIsNext_8 h (fun t2 h => ?_)
    refine z_aload_n C 0 dS_barrierIsNext_11 rfl rfl ?_
    refine z_getR C fl_S_22 dS_barrierIsNext_12 h (fun t3 h => ?_)
    refine z_iconst (v := 0) C dS_barrierIsNext_15 (by decide) ?_
    refine z_iald C rfl dS_barrierIsNext_16 h (fun t4 h => ?_)
    refine z_iald C rfl dS_barrierIsNext_17 h (fun t5 h => ?_)
    refine z_aload_n C 0 dS_barrierIsNext_18 rfl rfl ?_
    refine z_getI C fl_S_36 dS_barrierIsNext_19 h (fun t6 h => ?_)
    refine z_icmp_ne C 29 dS_barrierIsNext_22 (by decide) h (fun h => ?_) (fun h => ?_)
    · refine z_sub [] rfl ?_
      exact bS_barrierIsNext_29 C M V n h
    · refine z_iconst (v := 1) C dS_barrierIsNext_25 (by decide) ?_
      refine z_goto C 30 dS_barrierIsNext_26 (by decide) ?_
      exact z_zret C M (Nat.zero_le _) (Nat.zero_le _) dS_barrierIsNext_30 h
theorem mS_barrierIsNext {l : Launch} {D : va_G} {dA : Nat → ClassId} {V : zV} {n : Nat} (hl : l.stackTraces = false) {a0 : Nat} {w : zR} (h : fS_barrierIsNext V n a0 = some w) : z_Met l ⟨"BarrierMarks$Source", "barrierIsNext", "()Z"⟩ prog_6_method_3_code 1 (some .boolean) 0 0 (zc w) (zs w) [.ref a0] D dA V n w := by exact z_ofZ hl (by decide) (Nat.le_of_ble_eq_true rfl) (fun x C M => bS_barrierIsNext C M V n a0 h)
/-! BarrierMarks$Source.nextKind()I -/
def fS_nextKind (V : zV) (n : Nat) (a0 : Nat) : Option zR :=
    (zgI V (some a0) [1] 3).bind fun t1 =>
    if t1 = 0 then (
    (z_obj V (some a0) [1]).bind fun o => zcI (fS_barrierIsNext V n o.1 ) fun t2 V n =>
    if t2 = 0 then (
    (zgI V (some a0) [1] 11).bind fun t3 =>
    (zgI V (some a0) [1] 9).bind fun t4 =>
    if t4 ≤ t3 then (
    (zgI V (some a0) [1] 12).bind fun t5 =>
    if t5 = 0 then (
    zrI (-1 : Int32) V n) else (
    zrI (2 : Int32) V n)) else (
    zrI (0 : Int32) V n)) else (
    zrI (1 : Int32) V n)) else (
    zrI (-1 : Int32) V n)
set_option maxHeartbeats 4000000 in
set_option maxRecDepth 100000 in
theorem bS_nextKind {x : zX} {w : zR} (C : zC x prog_6_method_4_code "BarrierMarks$Source" "nextKind" 1 1 20 (some .int)) (M : zM x (zc w) (zs w)) : ∀ (V : zV) (n : Nat) (a0 : Nat), fS_nextKind V n a0 = some w → zZ x 1 0 0 w V n 0 [(0, va_rf (some a0))] [] := by
  intro V n a0 h
  unfold fS_nextKind at h
  refine z_aload_n C 0 dS_nextKind_0 rfl rfl ?_
  refine z_getI C fl_S_39 dS_nextKind_1 h (fun t1 h => ?_)
  refine z_if_eq C 9 dS_nextKind_4 (by decide) h (fun h => ?_) (fun h => ?_)
  · refine z_aload_n C 0 dS_nextKind_9 rfl rfl ?_
    refine z_vPI (ci := 1) C M zRmP [] cv_S_43 rfl (by decide) (by decide) rfl rfl (Nat.zero_le _) dS_nextKind_10 (fun b => fS_barrierIsNext V n b ) h (fun b w1 e1 l D dA hl => mS_barrierIsNext hl e1) (fun t2 V n h => ?_)
    refine z_if_eq C 18 dS_nextKind_13 (by decide) h (fun h => ?_) (fun h => ?_)
    · refine z_aload_n C 0 dS_nextKind_18 rfl rfl ?_
      refine z_getI C fl_S_36 dS_nextKind_19 h (fun t3 h => ?_)
      refine z_aload_n C 0 dS_nextKind_22 rfl rfl ?_
      refine z_getI C fl_S_25 dS_nextKind_23 h (fun t4 h => ?_)
      refine z_icmp_ge C 31 dS_nextKind_26 (by decide) h (fun h => ?_) (fun h => ?_)
      · refine z_aload_n C 0 dS_nextKind_31 rfl rfl ?_
        refine z_getI C fl_S_47 dS_nextKind_32 h (fun t5 h => ?_)
        refine z_if_eq C 42 dS_nextKind_35 (by decide) h (fun h => ?_) (fun h => ?_)
        · refine z_iconst (v := (-1)) C dS_nextKind_42 (by decide) ?_
          exact z_iret C M (Nat.zero_le _) (Nat.zero_le _) dS_nextKind_43 h
        · refine z_iconst (v := 2) C dS_nextKind_38 (by decide) ?_
          refine z_goto C 43 dS_nextKind_39 (by decide) ?_
          exact z_iret C M (Nat.zero_le _) (Nat.zero_le _) dS_nextKind_43 h
      · refine z_iconst (v := 0) C dS_nextKind_29 (by decide) ?_
        exact z_iret C M (Nat.zero_le _) (Nat.zero_le _) dS_nextKind_30 h
    · refine z_iconst (v := 1) C dS_nextKind_16 (by decide) ?_
      exact z_iret C M (Nat.zero_le _) (Nat.zero_le _) dS_nextKind_17 h
  · refine z_iconst (v := (-1)) C dS_nextKind_7 (by decide) ?_
    exact z_iret C M (Nat.zero_le _) (Nat.zero_le _) dS_nextKind_8 h
theorem mS_nextKind {l : Launch} {D : va_G} {dA : Nat → ClassId} {V : zV} {n : Nat} (hl : l.stackTraces = false) {a0 : Nat} {w : zR} (h : fS_nextKind V n a0 = some w) : z_Met l ⟨"BarrierMarks$Source", "nextKind", "()I"⟩ prog_6_method_4_code 1 (some .int) 1 20 (zc w) (zs w) [.ref a0] D dA V n w := by exact z_ofZ hl (by decide) (Nat.le_of_ble_eq_true rfl) (fun x C M => bS_nextKind C M V n a0 h)
/-! BarrierMarks$Source.nextValue()J -/
def fS_nextValue (V : zV) (n : Nat) (a0 : Nat) : Option zR :=
    (z_obj V (some a0) [1]).bind fun o => zcI (fS_barrierIsNext V n o.1 ) fun t1 V n =>
    if t1 = 0 then (
    (zgI V (some a0) [1] 11).bind fun t2 =>
    (zgI V (some a0) [1] 9).bind fun t3 =>
    if t3 ≤ t2 then (
    zrL (0 : Int64) V n) else (
    (zgR V (some a0) [1] 4).bind fun t4 =>
    (zgI V (some a0) [1] 11).bind fun t5 =>
    (zaL V t4 1 t5).bind fun t6 =>
    zrL t6 V n)) else (
    (zgR V (some a0) [1] 7).bind fun t7 =>
    (zaI V t7 0 (0 : Int32)).bind fun t8 =>
    zrL t8.toInt64 V n)
set_option maxHeartbeats 4000000 in
set_option maxRecDepth 100000 in
theorem bS_nextValue {x : zX} {w : zR} (C : zC x prog_6_method_5_code "BarrierMarks$Source" "nextValue" 1 1 20 (some .long)) (M : zM x (zc w) (zs w)) : ∀ (V : zV) (n : Nat) (a0 : Nat), fS_nextValue V n a0 = some w → zZ x 1 0 0 w V n 0 [(0, va_rf (some a0))] [] := by
  intro V n a0 h
  unfold fS_nextValue at h
  refine z_aload_n C 0 dS_nextValue_0 rfl rfl ?_
  refine z_vPI (ci := 1) C M zRmP [] cv_S_43 rfl (by decide) (by decide) rfl rfl (Nat.zero_le _) dS_nextValue_1 (fun b => fS_barrierIsNext V n b ) h (fun b w1 e1 l D dA hl => mS_barrierIsNext hl e1) (fun t1 V n h => ?_)
  refine z_if_eq C 15 dS_nextValue_4 (by decide) h (fun h => ?_) (fun h => ?_)
  · refine z_aload_n C 0 dS_nextValue_15 rfl rfl ?_
    refine z_getI C fl_S_36 dS_nextValue_16 h (fun t2 h => ?_)
    refine z_aload_n C 0 dS_nextValue_19 rfl rfl ?_
    refine z_getI C fl_S_25 dS_nextValue_20 h (fun t3 h => ?_)
    refine z_icmp_ge C 38 dS_nextValue_23 (by decide) h (fun h => ?_) (fun h => ?_)
    · refine z_lconst (v := 0) C dS_nextValue_38 (by decide) ?_
      exact z_lret C M (Nat.zero_le _) (Nat.zero_le _) dS_nextValue_39 h
    · refine z_aload_n C 0 dS_nextValue_26 rfl rfl ?_
      refine z_getR C fl_S_9 dS_nextValue_27 h (fun t4 h => ?_)
      refine z_aload_n C 0 dS_nextValue_30 rfl rfl ?_
      refine z_getI C fl_S_36 dS_nextValue_31 h (fun t5 h => ?_)
      refine z_lald C rfl dS_nextValue_34 h (fun t6 h => ?_)
      refine z_goto C 39 dS_nextValue_35 (by decide) ?_
      exact z_lret C M (Nat.zero_le _) (Nat.zero_le _) dS_nextValue_39 h
  · refine z_aload_n C 0 dS_nextValue_7 rfl rfl ?_
    refine z_getR C fl_S_22 dS_nextValue_8 h (fun t7 h => ?_)
    refine z_iconst (v := 0) C dS_nextValue_11 (by decide) ?_
    refine z_iald C rfl dS_nextValue_12 h (fun t8 h => ?_)
    refine z_i2l C dS_nextValue_13 ?_
    exact z_lret C M (Nat.zero_le _) (Nat.zero_le _) dS_nextValue_14 h
theorem mS_nextValue {l : Launch} {D : va_G} {dA : Nat → ClassId} {V : zV} {n : Nat} (hl : l.stackTraces = false) {a0 : Nat} {w : zR} (h : fS_nextValue V n a0 = some w) : z_Met l ⟨"BarrierMarks$Source", "nextValue", "()J"⟩ prog_6_method_5_code 1 (some .long) 1 20 (zc w) (zs w) [.ref a0] D dA V n w := by exact z_ofZ hl (by decide) (Nat.le_of_ble_eq_true rfl) (fun x C M => bS_nextValue C M V n a0 h)
/-! BarrierMarks$Source.passNext()V -/
def fS_passNext (V : zV) (n : Nat) (a0 : Nat) : Option zR :=
    (z_obj V (some a0) [1]).bind fun o => zcI (fS_barrierIsNext V n o.1 ) fun t1 V n =>
    if t1 = 0 then (
    (zgI V (some a0) [1] 11).bind fun t2 =>
    (zgI V (some a0) [1] 9).bind fun t3 =>
    if t3 ≤ t2 then (
    zrV V n) else (
    (zgI V (some a0) [1] 11).bind fun t4 =>
    (zpI V (some a0) [1] 11 ((t4 + (1 : Int32)))).bind fun V =>
    zrV V n)) else (
    (zgR V (some a0) [1] 7).bind fun t5 =>
    (zaI V t5 0 (0 : Int32)).bind fun t6 =>
    (z_obj V (some a0) [1]).bind fun o => zcV (fS_dropBarrier V n o.1 t6) fun V n =>
    zrV V n)
set_option maxHeartbeats 4000000 in
set_option maxRecDepth 100000 in
theorem bS_passNext {x : zX} {w : zR} (C : zC x prog_6_method_6_code "BarrierMarks$Source" "passNext" 1 1 23 none) (M : zM x (zc w) (zs w)) : ∀ (V : zV) (n : Nat) (a0 : Nat), fS_passNext V n a0 = some w → zZ x 1 0 0 w V n 0 [(0, va_rf (some a0))] [] := by
  intro V n a0 h
  unfold fS_passNext at h
  refine z_aload_n C 0 dS_passNext_0 rfl rfl ?_
  refine z_vPI (ci := 1) C M zRmP [] cv_S_43 rfl (by decide) (by decide) rfl rfl (Nat.zero_le _) dS_passNext_1 (fun b => fS_barrierIsNext V n b ) h (fun b w1 e1 l D dA hl => mS_barrierIsNext hl e1) (fun t1 V n h => ?_)
  refine z_if_eq C 20 dS_passNext_4 (by decide) h (fun h => ?_) (fun h => ?_)
  · refine z_aload_n C 0 dS_passNext_20 rfl rfl ?_
    refine z_getI C fl_S_36 dS_passNext_21 h (fun t2 h => ?_)
    refine z_aload_n C 0 dS_passNext_24 rfl rfl ?_
    refine z_getI C fl_S_25 dS_passNext_25 h (fun t3 h => ?_)
    refine z_icmp_ge C 41 dS_passNext_28 (by decide) h (fun h => ?_) (fun h => ?_)
    · exact z_vret C M (Nat.zero_le _) (Nat.zero_le _) dS_passNext_41 h
    · refine z_aload_n C 0 dS_passNext_31 rfl rfl ?_
      refine z_dup C dS_passNext_32 (zrfcat _) ?_
      refine z_getI C fl_S_36 dS_passNext_33 h (fun t4 h => ?_)
      refine z_iconst (v := 1) C dS_passNext_36 (by decide) ?_
      refine z_iadd C dS_passNext_37 ?_
      refine z_putI C pf_S_36 (fun h => absurd h (by decide)) dS_passNext_38 h (fun V h => ?_)
      exact z_vret C M (Nat.zero_le _) (Nat.zero_le _) dS_passNext_41 h
  · refine z_aload_n C 0 dS_passNext_7 rfl rfl ?_
    refine z_aload_n C 0 dS_passNext_8 rfl rfl ?_
    refine z_getR C fl_S_22 dS_passNext_9 h (fun t5 h => ?_)
    refine z_iconst (v := 0) C dS_passNext_12 (by decide) ?_
    refine z_iald C rfl dS_passNext_13 h (fun t6 h => ?_)
    refine z_vPV (ci := 1) C M zRmP [.int t6] cv_S_50 rfl (by decide) (by decide) rfl rfl (Nat.zero_le _) dS_passNext_14 (fun b => fS_dropBarrier V n b t6) h (fun b w1 e1 l D dA hl => mS_dropBarrier hl e1) (fun V n h => ?_)
    refine z_goto C 41 dS_passNext_17 (by decide) ?_
    exact z_vret C M (Nat.zero_le _) (Nat.zero_le _) dS_passNext_41 h
theorem mS_passNext {l : Launch} {D : va_G} {dA : Nat → ClassId} {V : zV} {n : Nat} (hl : l.stackTraces = false) {a0 : Nat} {w : zR} (h : fS_passNext V n a0 = some w) : z_Met l ⟨"BarrierMarks$Source", "passNext", "()V"⟩ prog_6_method_6_code 1 none 1 23 (zc w) (zs w) [.ref a0] D dA V n w := by exact z_ofZ hl (by decide) (Nat.le_of_ble_eq_true rfl) (fun x C M => bS_passNext C M V n a0 h)
/-! BarrierMarks$Source.goBack(I)V -/
def fS_goBack (V : zV) (n : Nat) (a0 : Nat) (x1 : Int32) : Option zR :=
    if x1 < 0 then (
    zrV V n) else (
    (zgR V (some a0) [1] 5).bind fun t1 =>
    (zalen V t1 0).bind fun t2 =>
    if t2 ≤ x1 then (
    zrV V n) else (
    (zgR V (some a0) [1] 5).bind fun t3 =>
    (zaI V t3 0 x1).bind fun t4 =>
    (zpI V (some a0) [1] 11 t4).bind fun V =>
    zrV V n))
set_option maxHeartbeats 4000000 in
set_option maxRecDepth 100000 in
theorem bS_goBack {x : zX} {w : zR} (C : zC x prog_6_method_10_code "BarrierMarks$Source" "goBack" 2 0 0 none) (M : zM x (zc w) (zs w)) : ∀ (V : zV) (n : Nat) (a0 : Nat) (x1 : Int32), fS_goBack V n a0 x1 = some w → zZ x 2 0 0 w V n 0 [(0, va_rf (some a0)), (1, .int x1)] [] := by
  intro V n a0 x1 h
  unfold fS_goBack at h
  refine z_iload_n C 1 dS_goBack_0 rfl rfl ?_
  refine z_if_lt C 23 dS_goBack_1 (by decide) h (fun h => ?_) (fun h => ?_)
  · exact z_vret C M (Nat.zero_le _) (Nat.zero_le _) dS_goBack_23 h
  · refine z_iload_n C 1 dS_goBack_4 rfl rfl ?_
    refine z_aload_n C 0 dS_goBack_5 rfl rfl ?_
    refine z_getR C fl_S_15 dS_goBack_6 h (fun t1 h => ?_)
    refine z_alen C rfl dS_goBack_9 h (fun t2 h => ?_)
    refine z_icmp_ge C 23 dS_goBack_10 (by decide) h (fun h => ?_) (fun h => ?_)
    · exact z_vret C M (Nat.zero_le _) (Nat.zero_le _) dS_goBack_23 h
    · refine z_aload_n C 0 dS_goBack_13 rfl rfl ?_
      refine z_aload_n C 0 dS_goBack_14 rfl rfl ?_
      refine z_getR C fl_S_15 dS_goBack_15 h (fun t3 h => ?_)
      refine z_iload_n C 1 dS_goBack_18 rfl rfl ?_
      refine z_iald C rfl dS_goBack_19 h (fun t4 h => ?_)
      refine z_putI C pf_S_36 (fun h => absurd h (by decide)) dS_goBack_20 h (fun V h => ?_)
      exact z_vret C M (Nat.zero_le _) (Nat.zero_le _) dS_goBack_23 h
theorem mS_goBack {l : Launch} {D : va_G} {dA : Nat → ClassId} {V : zV} {n : Nat} (hl : l.stackTraces = false) {a0 : Nat} {x1 : Int32} {w : zR} (h : fS_goBack V n a0 x1 = some w) : z_Met l ⟨"BarrierMarks$Source", "goBack", "(I)V"⟩ prog_6_method_10_code 2 none 0 0 (zc w) (zs w) [.ref a0, .int x1] D dA V n w := by exact z_ofZ hl (by decide) (Nat.le_of_ble_eq_true rfl) (fun x C M => bS_goBack C M V n a0 x1 h)
/-! BarrierMarks$Source.left()I -/
def fS_left (V : zV) (n : Nat) (a0 : Nat) : Option zR :=
    (zgI V (some a0) [1] 9).bind fun t1 =>
    (zgI V (some a0) [1] 11).bind fun t2 =>
    zrI (t1 - t2) V n
set_option maxHeartbeats 4000000 in
set_option maxRecDepth 100000 in
theorem bS_left {x : zX} {w : zR} (C : zC x prog_6_method_7_code "BarrierMarks$Source" "left" 1 0 0 (some .int)) (M : zM x (zc w) (zs w)) : ∀ (V : zV) (n : Nat) (a0 : Nat), fS_left V n a0 = some w → zZ x 1 0 0 w V n 0 [(0, va_rf (some a0))] [] := by
  intro V n a0 h
  unfold fS_left at h
  refine z_aload_n C 0 dS_left_0 rfl rfl ?_
  refine z_getI C fl_S_25 dS_left_1 h (fun t1 h => ?_)
  refine z_aload_n C 0 dS_left_4 rfl rfl ?_
  refine z_getI C fl_S_36 dS_left_5 h (fun t2 h => ?_)
  refine z_isub C dS_left_8 ?_
  exact z_iret C M (Nat.zero_le _) (Nat.zero_le _) dS_left_9 h
theorem mS_left {l : Launch} {D : va_G} {dA : Nat → ClassId} {V : zV} {n : Nat} (hl : l.stackTraces = false) {a0 : Nat} {w : zR} (h : fS_left V n a0 = some w) : z_Met l ⟨"BarrierMarks$Source", "left", "()I"⟩ prog_6_method_7_code 1 (some .int) 0 0 (zc w) (zs w) [.ref a0] D dA V n w := by exact z_ofZ hl (by decide) (Nat.le_of_ble_eq_true rfl) (fun x C M => bS_left C M V n a0 h)
