/-! BarrierMarks$AckRow.<init>()V -/
def fK_init (V : zV) (n : Nat) (a0 : Nat) : Option zR :=
    znwa V n 0 520 (520 : Int32) (.inl (fun _ => 0)) fun t1 V n =>
    (zpR V (some a0) [0] 0 (some t1)).bind fun V =>
    znwa V n 0 520 (520 : Int32) (.inl (fun _ => 0)) fun t2 V n =>
    (zpR V (some a0) [0] 1 (some t2)).bind fun V =>
    zrV V n
set_option maxHeartbeats 4000000 in
set_option maxRecDepth 100000 in
theorem bK_init {x : zX} {w : zR} (C : zC x prog_2_method_1_code "BarrierMarks$AckRow" "<init>" 1 1 12 none) (M : zM x 2 1040) : ∀ (V : zV) (n : Nat) (a0 : Nat), fK_init V n a0 = some w → zZ x 1 0 0 w V n 0 [(0, va_rf (some a0))] [] := by
  intro V n a0 h
  unfold fK_init at h
  refine z_aload_n C 0 dK_init_0 rfl rfl ?_
  refine z_objInit C ol_K_3 oi_ oc_ (by decide) (by first | decide | (simp [zrfcat, zicat, zlcat]; done)) dK_init_1 ?_
  refine z_aload_n C 0 dK_init_4 rfl rfl ?_
  refine z_sipush (v := 520) C dK_init_5 (by decide) ?_
  refine z_newaK (at9 := .int) C M rfl rfl na_0 (fun _ _ => rfl) (fun _ _ => rfl) (by decide) (by decide) (by decide) dK_init_8 h (fun t1 V n h => ?_)
  refine z_putR C pf_K_9 zfitA (fun _ => rfl) dK_init_10 h (fun V h => ?_)
  refine z_aload_n C 0 dK_init_13 rfl rfl ?_
  refine z_sipush (v := 520) C dK_init_14 (by decide) ?_
  refine z_newaK (at9 := .int) C M rfl rfl na_0 (fun _ _ => rfl) (fun _ _ => rfl) (by decide) (by decide) (by decide) dK_init_17 h (fun t2 V n h => ?_)
  refine z_putR C pf_K_15 zfitA (fun _ => rfl) dK_init_19 h (fun V h => ?_)
  exact z_vret C M (by decide) (by decide) dK_init_22 h
theorem mK_init {l : Launch} {D : va_G} {dA : Nat → ClassId} {V : zV} {n : Nat} (hl : l.stackTraces = false) {a0 : Nat} {w : zR} (h : fK_init V n a0 = some w) : z_Met l ⟨"BarrierMarks$AckRow", "<init>", "()V"⟩ prog_2_method_1_code 1 none 1 12 2 1040 [.ref a0] D dA V n w := by exact z_ofZ hl (by decide) (Nat.le_of_ble_eq_true rfl) (fun x C M => bK_init C M V n a0 h)
/-! BarrierMarks$AckRow.add(II)V -/
def fK_add_33 (V : zV) (n : Nat) (a0 : Nat) (x1 : Int32) (x2 : Int32) (x3 : Int32) : Option zR :=
    (zgR V (some a0) [0] 0).bind fun t1 =>
    (zsI V t1 0 x3 x1).bind fun V =>
    (zgR V (some a0) [0] 1).bind fun t2 =>
    (zsI V t2 0 x3 x2).bind fun V =>
    (zgI V (some a0) [0] 3).bind fun t3 =>
    (zpI V (some a0) [0] 3 ((t3 + (1 : Int32)))).bind fun V =>
    zrV V n
set_option maxHeartbeats 4000000 in
set_option maxRecDepth 100000 in
theorem bK_add_33 {x : zX} {w : zR} (C : zC x prog_2_method_2_code "BarrierMarks$AckRow" "add" 4 0 0 none) (M : zM x (zc w) (zs w)) : ∀ (V : zV) (n : Nat) (a0 : Nat) (x1 : Int32) (x2 : Int32) (x3 : Int32), fK_add_33 V n a0 x1 x2 x3 = some w → zZ x 4 0 0 w V n 33 [(0, va_rf (some a0)), (1, .int x1), (2, .int x2), (3, .int x3)] [] := by
  intro V n a0 x1 x2 x3 h
  unfold fK_add_33 at h
  refine z_aload_n C 0 dK_add_33 rfl rfl ?_
  refine z_getR C fl_K_9 dK_add_34 h (fun t1 h => ?_)
  refine z_iload_n C 3 dK_add_37 rfl rfl ?_
  refine z_iload_n C 1 dK_add_38 rfl rfl ?_
  refine z_iast C rfl dK_add_39 h (fun V h => ?_)
  refine z_aload_n C 0 dK_add_40 rfl rfl ?_
  refine z_getR C fl_K_15 dK_add_41 h (fun t2 h => ?_)
  refine z_iload_n C 3 dK_add_44 rfl rfl ?_
  refine z_iload_n C 2 dK_add_45 rfl rfl ?_
  refine z_iast C rfl dK_add_46 h (fun V h => ?_)
  refine z_aload_n C 0 dK_add_47 rfl rfl ?_
  refine z_dup C dK_add_48 (zrfcat _) ?_
  refine z_getI C fl_K_18 dK_add_49 h (fun t3 h => ?_)
  refine z_iconst (v := 1) C dK_add_52 (by decide) ?_
  refine z_iadd C dK_add_53 ?_
  refine z_putI C pf_K_18 (fun h => absurd h (by decide)) dK_add_54 h (fun V h => ?_)
  exact z_vret C M (Nat.zero_le _) (Nat.zero_le _) dK_add_57 h
def fK_add (V : zV) (n : Nat) (a0 : Nat) (x1 : Int32) (x2 : Int32) : Option zR :=
    (zgI V (some a0) [0] 3).bind fun t1 =>
    if (520 : Int32) ≤ t1 then (
    zrV V n) else (
    (zgI V (some a0) [0] 2).bind fun t2 =>
    (zgI V (some a0) [0] 3).bind fun t3 =>
    if (t2 + t3) < (520 : Int32) then (
    fK_add_33 V n a0 x1 x2 (t2 + t3)) else (
    fK_add_33 V n a0 x1 x2 (((t2 + t3) + (-520)))))
set_option maxHeartbeats 4000000 in
set_option maxRecDepth 100000 in
theorem bK_add {x : zX} {w : zR} (C : zC x prog_2_method_2_code "BarrierMarks$AckRow" "add" 4 0 0 none) (M : zM x (zc w) (zs w)) : ∀ (V : zV) (n : Nat) (a0 : Nat) (x1 : Int32) (x2 : Int32), fK_add V n a0 x1 x2 = some w → zZ x 4 0 0 w V n 0 [(0, va_rf (some a0)), (1, .int x1), (2, .int x2)] [] := by
  intro V n a0 x1 x2 h
  unfold fK_add at h
  refine z_aload_n C 0 dK_add_0 rfl rfl ?_
  refine z_getI C fl_K_18 dK_add_1 h (fun t1 h => ?_)
  refine z_sipush (v := 520) C dK_add_4 (by decide) ?_
  refine z_icmp_ge C 57 dK_add_7 (by decide) h (fun h => ?_) (fun h => ?_)
  · exact z_vret C M (Nat.zero_le _) (Nat.zero_le _) dK_add_57 h
  · refine z_aload_n C 0 dK_add_10 rfl rfl ?_
    refine z_getI C fl_K_22 dK_add_11 h (fun t2 h => ?_)
    refine z_aload_n C 0 dK_add_14 rfl rfl ?_
    refine z_getI C fl_K_18 dK_add_15 h (fun t3 h => ?_)
    refine z_iadd C dK_add_18 ?_
    refine z_istore_n (lv' := [(3, .int (t2 + t3)), (0, va_rf (some a0)), (1, .int x1), (2, .int x2)]) (i := 3) C dK_add_19 rfl (by decide) rfl ?_
    refine z_iload_n C 0 dK_add_20 rfl rfl ?_
    refine z_sipush (v := 520) C dK_add_21 (by decide) ?_
    refine z_icmp_lt C 33 dK_add_24 (by decide) h (fun h => ?_) (fun h => ?_)
    · refine z_sub [1, 2, 3, 0] rfl ?_
      exact bK_add_33 C M V n a0 x1 x2 (t2 + t3) h
    · refine z_iinc_w (lv' := [(3, .int ((t2 + t3) + (-520))), (0, va_rf (some a0)), (1, .int x1), (2, .int x2)]) C 0 dK_add_27 rfl rfl (by decide) rfl ?_
      refine z_sub [1, 2, 3, 0] rfl ?_
      exact bK_add_33 C M V n a0 x1 x2 (((t2 + t3) + (-520))) h
theorem mK_add {l : Launch} {D : va_G} {dA : Nat → ClassId} {V : zV} {n : Nat} (hl : l.stackTraces = false) {a0 : Nat} {x1 : Int32} {x2 : Int32} {w : zR} (h : fK_add V n a0 x1 x2 = some w) : z_Met l ⟨"BarrierMarks$AckRow", "add", "(II)V"⟩ prog_2_method_2_code 4 none 0 0 (zc w) (zs w) [.ref a0, .int x1, .int x2] D dA V n w := by exact z_ofZ hl (by decide) (Nat.le_of_ble_eq_true rfl) (fun x C M => bK_add C M V n a0 x1 x2 h)
/-! BarrierMarks$AckRow.firstMark()I -/
def fK_firstMark (V : zV) (n : Nat) (a0 : Nat) : Option zR :=
    (zgR V (some a0) [0] 0).bind fun t1 =>
    (zgI V (some a0) [0] 2).bind fun t2 =>
    (zaI V t1 0 t2).bind fun t3 =>
    zrI t3 V n
set_option maxHeartbeats 4000000 in
set_option maxRecDepth 100000 in
theorem bK_firstMark {x : zX} {w : zR} (C : zC x prog_2_method_3_code "BarrierMarks$AckRow" "firstMark" 1 0 0 (some .int)) (M : zM x (zc w) (zs w)) : ∀ (V : zV) (n : Nat) (a0 : Nat), fK_firstMark V n a0 = some w → zZ x 1 0 0 w V n 0 [(0, va_rf (some a0))] [] := by
  intro V n a0 h
  unfold fK_firstMark at h
  refine z_aload_n C 0 dK_firstMark_0 rfl rfl ?_
  refine z_getR C fl_K_9 dK_firstMark_1 h (fun t1 h => ?_)
  refine z_aload_n C 0 dK_firstMark_4 rfl rfl ?_
  refine z_getI C fl_K_22 dK_firstMark_5 h (fun t2 h => ?_)
  refine z_iald C rfl dK_firstMark_8 h (fun t3 h => ?_)
  exact z_iret C M (Nat.zero_le _) (Nat.zero_le _) dK_firstMark_9 h
theorem mK_firstMark {l : Launch} {D : va_G} {dA : Nat → ClassId} {V : zV} {n : Nat} (hl : l.stackTraces = false) {a0 : Nat} {w : zR} (h : fK_firstMark V n a0 = some w) : z_Met l ⟨"BarrierMarks$AckRow", "firstMark", "()I"⟩ prog_2_method_3_code 1 (some .int) 0 0 (zc w) (zs w) [.ref a0] D dA V n w := by exact z_ofZ hl (by decide) (Nat.le_of_ble_eq_true rfl) (fun x C M => bK_firstMark C M V n a0 h)
/-! BarrierMarks$AckRow.firstTask()I -/
def fK_firstTask (V : zV) (n : Nat) (a0 : Nat) : Option zR :=
    (zgR V (some a0) [0] 1).bind fun t1 =>
    (zgI V (some a0) [0] 2).bind fun t2 =>
    (zaI V t1 0 t2).bind fun t3 =>
    zrI t3 V n
set_option maxHeartbeats 4000000 in
set_option maxRecDepth 100000 in
theorem bK_firstTask {x : zX} {w : zR} (C : zC x prog_2_method_4_code "BarrierMarks$AckRow" "firstTask" 1 0 0 (some .int)) (M : zM x (zc w) (zs w)) : ∀ (V : zV) (n : Nat) (a0 : Nat), fK_firstTask V n a0 = some w → zZ x 1 0 0 w V n 0 [(0, va_rf (some a0))] [] := by
  intro V n a0 h
  unfold fK_firstTask at h
  refine z_aload_n C 0 dK_firstTask_0 rfl rfl ?_
  refine z_getR C fl_K_15 dK_firstTask_1 h (fun t1 h => ?_)
  refine z_aload_n C 0 dK_firstTask_4 rfl rfl ?_
  refine z_getI C fl_K_22 dK_firstTask_5 h (fun t2 h => ?_)
  refine z_iald C rfl dK_firstTask_8 h (fun t3 h => ?_)
  exact z_iret C M (Nat.zero_le _) (Nat.zero_le _) dK_firstTask_9 h
theorem mK_firstTask {l : Launch} {D : va_G} {dA : Nat → ClassId} {V : zV} {n : Nat} (hl : l.stackTraces = false) {a0 : Nat} {w : zR} (h : fK_firstTask V n a0 = some w) : z_Met l ⟨"BarrierMarks$AckRow", "firstTask", "()I"⟩ prog_2_method_4_code 1 (some .int) 0 0 (zc w) (zs w) [.ref a0] D dA V n w := by exact z_ofZ hl (by decide) (Nat.le_of_ble_eq_true rfl) (fun x C M => bK_firstTask C M V n a0 h)
/-! BarrierMarks$AckRow.dropFirst()V -/
def fK_dropFirst_40 (V : zV) (n : Nat) (s0 : Option Nat) (s1 : Int32) : Option zR :=
    (zpI V s0 [0] 2 s1).bind fun V =>
    zrV V n
set_option maxHeartbeats 4000000 in
set_option maxRecDepth 100000 in
theorem bK_dropFirst_40 {x : zX} {w : zR} (C : zC x prog_2_method_5_code "BarrierMarks$AckRow" "dropFirst" 1 0 0 none) (M : zM x (zc w) (zs w)) : ∀ (V : zV) (n : Nat) (s0 : Option Nat) (s1 : Int32), fK_dropFirst_40 V n s0 s1 = some w → zZ x 1 0 0 w V n 40 [] [.int s1, va_rf s0] := by
  intro V n s0 s1 h
  unfold fK_dropFirst_40 at h
  refine z_putI C pf_K_22 (fun h => absurd h (by decide)) dK_dropFirst_40 h (fun V h => ?_)
  exact z_vret C M (Nat.zero_le _) (Nat.zero_le _) dK_dropFirst_43 h
def fK_dropFirst (V : zV) (n : Nat) (a0 : Nat) : Option zR :=
    (zgI V (some a0) [0] 3).bind fun t1 =>
    if t1 ≤ 0 then (
    zrV V n) else (
    (zgI V (some a0) [0] 3).bind fun t2 =>
    (zpI V (some a0) [0] 3 ((t2 - (1 : Int32)))).bind fun V =>
    (zgI V (some a0) [0] 2).bind fun t3 =>
    if (520 : Int32) ≤ (t3 + (1 : Int32)) then (
    fK_dropFirst_40 V n (some a0) (0 : Int32)) else (
    (zgI V (some a0) [0] 2).bind fun t4 =>
    fK_dropFirst_40 V n (some a0) ((t4 + (1 : Int32)))))
set_option maxHeartbeats 4000000 in
set_option maxRecDepth 100000 in
theorem bK_dropFirst {x : zX} {w : zR} (C : zC x prog_2_method_5_code "BarrierMarks$AckRow" "dropFirst" 1 0 0 none) (M : zM x (zc w) (zs w)) : ∀ (V : zV) (n : Nat) (a0 : Nat), fK_dropFirst V n a0 = some w → zZ x 1 0 0 w V n 0 [(0, va_rf (some a0))] [] := by
  intro V n a0 h
  unfold fK_dropFirst at h
  refine z_aload_n C 0 dK_dropFirst_0 rfl rfl ?_
  refine z_getI C fl_K_18 dK_dropFirst_1 h (fun t1 h => ?_)
  refine z_if_le C 43 dK_dropFirst_4 (by decide) h (fun h => ?_) (fun h => ?_)
  · exact z_vret C M (Nat.zero_le _) (Nat.zero_le _) dK_dropFirst_43 h
  · refine z_aload_n C 0 dK_dropFirst_7 rfl rfl ?_
    refine z_dup C dK_dropFirst_8 (zrfcat _) ?_
    refine z_getI C fl_K_18 dK_dropFirst_9 h (fun t2 h => ?_)
    refine z_iconst (v := 1) C dK_dropFirst_12 (by decide) ?_
    refine z_isub C dK_dropFirst_13 ?_
    refine z_putI C pf_K_18 (fun h => absurd h (by decide)) dK_dropFirst_14 h (fun V h => ?_)
    refine z_aload_n C 0 dK_dropFirst_17 rfl rfl ?_
    refine z_aload_n C 0 dK_dropFirst_18 rfl rfl ?_
    refine z_getI C fl_K_22 dK_dropFirst_19 h (fun t3 h => ?_)
    refine z_iconst (v := 1) C dK_dropFirst_22 (by decide) ?_
    refine z_iadd C dK_dropFirst_23 ?_
    refine z_sipush (v := 520) C dK_dropFirst_24 (by decide) ?_
    refine z_icmp_ge C 39 dK_dropFirst_27 (by decide) h (fun h => ?_) (fun h => ?_)
    · refine z_iconst (v := 0) C dK_dropFirst_39 (by decide) ?_
      refine z_sub [] rfl ?_
      exact bK_dropFirst_40 C M V n (some a0) (0 : Int32) h
    · refine z_aload_n C 0 dK_dropFirst_30 rfl rfl ?_
      refine z_getI C fl_K_22 dK_dropFirst_31 h (fun t4 h => ?_)
      refine z_iconst (v := 1) C dK_dropFirst_34 (by decide) ?_
      refine z_iadd C dK_dropFirst_35 ?_
      refine z_goto C 40 dK_dropFirst_36 (by decide) ?_
      refine z_sub [] rfl ?_
      exact bK_dropFirst_40 C M V n (some a0) ((t4 + (1 : Int32))) h
theorem mK_dropFirst {l : Launch} {D : va_G} {dA : Nat → ClassId} {V : zV} {n : Nat} (hl : l.stackTraces = false) {a0 : Nat} {w : zR} (h : fK_dropFirst V n a0 = some w) : z_Met l ⟨"BarrierMarks$AckRow", "dropFirst", "()V"⟩ prog_2_method_5_code 1 none 0 0 (zc w) (zs w) [.ref a0] D dA V n w := by exact z_ofZ hl (by decide) (Nat.le_of_ble_eq_true rfl) (fun x C M => bK_dropFirst C M V n a0 h)
/-! BarrierMarks$AckRow.clear()V -/
def fK_clear (V : zV) (n : Nat) (a0 : Nat) : Option zR :=
    (zpI V (some a0) [0] 2 (0 : Int32)).bind fun V =>
    (zpI V (some a0) [0] 3 (0 : Int32)).bind fun V =>
    zrV V n
set_option maxHeartbeats 4000000 in
set_option maxRecDepth 100000 in
theorem bK_clear {x : zX} {w : zR} (C : zC x prog_2_method_6_code "BarrierMarks$AckRow" "clear" 1 0 0 none) (M : zM x (zc w) (zs w)) : ∀ (V : zV) (n : Nat) (a0 : Nat), fK_clear V n a0 = some w → zZ x 1 0 0 w V n 0 [(0, va_rf (some a0))] [] := by
  intro V n a0 h
  unfold fK_clear at h
  refine z_aload_n C 0 dK_clear_0 rfl rfl ?_
  refine z_iconst (v := 0) C dK_clear_1 (by decide) ?_
  refine z_putI C pf_K_22 (fun h => absurd h (by decide)) dK_clear_2 h (fun V h => ?_)
  refine z_aload_n C 0 dK_clear_5 rfl rfl ?_
  refine z_iconst (v := 0) C dK_clear_6 (by decide) ?_
  refine z_putI C pf_K_18 (fun h => absurd h (by decide)) dK_clear_7 h (fun V h => ?_)
  exact z_vret C M (Nat.zero_le _) (Nat.zero_le _) dK_clear_10 h
theorem mK_clear {l : Launch} {D : va_G} {dA : Nat → ClassId} {V : zV} {n : Nat} (hl : l.stackTraces = false) {a0 : Nat} {w : zR} (h : fK_clear V n a0 = some w) : z_Met l ⟨"BarrierMarks$AckRow", "clear", "()V"⟩ prog_2_method_6_code 1 none 0 0 (zc w) (zs w) [.ref a0] D dA V n w := by exact z_ofZ hl (by decide) (Nat.le_of_ble_eq_true rfl) (fun x C M => bK_clear C M V n a0 h)
