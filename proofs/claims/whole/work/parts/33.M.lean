/-! BarrierMarks$Mark.<init>(II)V -/
def fM_init (V : zV) (n : Nat) (a0 : Nat) (x1 : Int32) (x2 : Int32) : Option zR :=
    (zpI V (some a0) [3] 8 (0 : Int32)).bind fun V =>
    (zpI V (some a0) [3] 0 x1).bind fun V =>
    znwa V n 2 8 ((if x2 < (0 : Int32) then (0 : Int32) else x2)) (.inl (fun _ => 0)) fun t1 V n =>
    (zpR V (some a0) [3] 1 (some t1)).bind fun V =>
    znwa V n 2 8 ((if x2 < (0 : Int32) then (0 : Int32) else x2)) (.inl (fun _ => 0)) fun t2 V n =>
    (zpR V (some a0) [3] 2 (some t2)).bind fun V =>
    znwa V n 2 8 ((if x2 < (0 : Int32) then (0 : Int32) else x2)) (.inl (fun _ => 0)) fun t3 V n =>
    (zpR V (some a0) [3] 3 (some t3)).bind fun V =>
    znwa V n 1 8 ((if x2 < (0 : Int32) then (0 : Int32) else x2)) (.inr (.inl (fun _ => 0))) fun t4 V n =>
    (zpR V (some a0) [3] 4 (some t4)).bind fun V =>
    znwa V n 0 8 ((if x2 < (0 : Int32) then (0 : Int32) else x2)) (.inl (fun _ => 0)) fun t5 V n =>
    (zpR V (some a0) [3] 5 (some t5)).bind fun V =>
    znwa V n 2 8 ((if x2 < (0 : Int32) then (0 : Int32) else x2)) (.inl (fun _ => 0)) fun t6 V n =>
    (zpR V (some a0) [3] 6 (some t6)).bind fun V =>
    zrV V n
set_option maxHeartbeats 4000000 in
set_option maxRecDepth 100000 in
theorem bM_init {x : zX} {w : zR} (C : zC x prog_5_method_1_code "BarrierMarks$Mark" "<init>" 4 1 13 none) (M : zM x 6 48) : ∀ (V : zV) (n : Nat) (a0 : Nat) (x1 : Int32) (x2 : Int32), fM_init V n a0 x1 x2 = some w → zZ x 4 0 0 w V n 0 [(0, va_rf (some a0)), (1, .int x1), (2, .int x2)] [] := by
  intro V n a0 x1 x2 h
  unfold fM_init at h
  refine z_aload_n C 0 dM_init_0 rfl rfl ?_
  refine z_objInit C ol_M_3 oi_ oc_ (by decide) (by first | decide | (simp [zrfcat, zicat, zlcat]; done)) dM_init_1 ?_
  refine z_aload_n C 0 dM_init_4 rfl rfl ?_
  refine z_iconst (v := 0) C dM_init_5 (by decide) ?_
  refine z_putI C pf_M_9 (fun h => absurd h (by decide)) dM_init_6 h (fun V h => ?_)
  refine z_iload_n C 2 dM_init_9 rfl rfl ?_
  refine z_iconst (v := 0) C dM_init_10 (by decide) ?_
  refine z_max C M ml_M_15 ms_max mi_ mc_max (by decide) (by first | decide | (simp [zrfcat, zicat, zlcat]; done)) (by decide) (by decide) dM_init_11 ?_
  refine z_istore_n (lv' := [(3, .int (if x2 < (0 : Int32) then (0 : Int32) else x2)), (0, va_rf (some a0)), (1, .int x1), (2, .int x2)]) (i := 3) C dM_init_14 rfl (by decide) rfl ?_
  refine z_aload_n C 1 dM_init_15 rfl rfl ?_
  refine z_iload_n C 2 dM_init_16 rfl rfl ?_
  refine z_putI C pf_M_21 (fun _ => rfl) dM_init_17 h (fun V h => ?_)
  refine z_aload_n C 1 dM_init_20 rfl rfl ?_
  refine z_iload_n C 0 dM_init_21 rfl rfl ?_
  refine z_newaK (at9 := .boolean) C M rfl rfl na_2 (fun _ _ => rfl) (fun _ _ => rfl) (by decide) (by decide) (by decide) dM_init_22 h (fun t1 V n h => ?_)
  refine z_putR C pf_M_24 zfitA (fun _ => rfl) dM_init_24 h (fun V h => ?_)
  refine z_aload_n C 1 dM_init_27 rfl rfl ?_
  refine z_iload_n C 0 dM_init_28 rfl rfl ?_
  refine z_newaK (at9 := .boolean) C M rfl rfl na_2 (fun _ _ => rfl) (fun _ _ => rfl) (by decide) (by decide) (by decide) dM_init_29 h (fun t2 V n h => ?_)
  refine z_putR C pf_M_28 zfitA (fun _ => rfl) dM_init_31 h (fun V h => ?_)
  refine z_aload_n C 1 dM_init_34 rfl rfl ?_
  refine z_iload_n C 0 dM_init_35 rfl rfl ?_
  refine z_newaK (at9 := .boolean) C M rfl rfl na_2 (fun _ _ => rfl) (fun _ _ => rfl) (by decide) (by decide) (by decide) dM_init_36 h (fun t3 V n h => ?_)
  refine z_putR C pf_M_31 zfitA (fun _ => rfl) dM_init_38 h (fun V h => ?_)
  refine z_aload_n C 1 dM_init_41 rfl rfl ?_
  refine z_iload_n C 0 dM_init_42 rfl rfl ?_
  refine z_newaK (at9 := .long) C M rfl rfl na_1 (fun _ _ => rfl) (fun _ _ => rfl) (by decide) (by decide) (by decide) dM_init_43 h (fun t4 V n h => ?_)
  refine z_putR C pf_M_34 zfitA (fun _ => rfl) dM_init_45 h (fun V h => ?_)
  refine z_aload_n C 1 dM_init_48 rfl rfl ?_
  refine z_iload_n C 0 dM_init_49 rfl rfl ?_
  refine z_newaK (at9 := .int) C M rfl rfl na_0 (fun _ _ => rfl) (fun _ _ => rfl) (by decide) (by decide) (by decide) dM_init_50 h (fun t5 V n h => ?_)
  refine z_putR C pf_M_38 zfitA (fun _ => rfl) dM_init_52 h (fun V h => ?_)
  refine z_aload_n C 1 dM_init_55 rfl rfl ?_
  refine z_iload_n C 0 dM_init_56 rfl rfl ?_
  refine z_newaK (at9 := .boolean) C M rfl rfl na_2 (fun _ _ => rfl) (fun _ _ => rfl) (by decide) (by decide) (by decide) dM_init_57 h (fun t6 V n h => ?_)
  refine z_putR C pf_M_42 zfitA (fun _ => rfl) dM_init_59 h (fun V h => ?_)
  exact z_vret C M (by decide) (by decide) dM_init_62 h
theorem mM_init {l : Launch} {D : va_G} {dA : Nat → ClassId} {V : zV} {n : Nat} (hl : l.stackTraces = false) {a0 : Nat} {x1 : Int32} {x2 : Int32} {w : zR} (h : fM_init V n a0 x1 x2 = some w) : z_Met l ⟨"BarrierMarks$Mark", "<init>", "(II)V"⟩ prog_5_method_1_code 4 none 1 13 6 48 [.ref a0, .int x1, .int x2] D dA V n w := by exact z_ofZ hl (by decide) (Nat.le_of_ble_eq_true rfl) (fun x C M => bM_init C M V n a0 x1 x2 h)
/-! BarrierMarks$Mark.keepStateOf(LBarrierMarks$Task;)V -/
def fM_keepStateOf (V : zV) (n : Nat) (a0 : Nat) (x1 : Option Nat) : Option zR :=
    (zgI V x1 [4] 0).bind fun t1 =>
    if t1 < 0 then (
    zrV V n) else (
    (zgR V (some a0) [3] 1).bind fun t2 =>
    (zalen V t2 2).bind fun t3 =>
    if t3 ≤ t1 then (
    zrV V n) else (
    (zgR V (some a0) [3] 1).bind fun t4 =>
    (zsZ V t4 2 t1 (1 : Int32)).bind fun V =>
    (zgR V (some a0) [3] 4).bind fun t5 =>
    (zgL V x1 [4] 6).bind fun t6 =>
    (zsL V t5 1 t1 t6).bind fun V =>
    (zgR V (some a0) [3] 5).bind fun t7 =>
    (zgI V x1 [4] 7).bind fun t8 =>
    (zsI V t7 0 t1 t8).bind fun V =>
    (zgR V (some a0) [3] 6).bind fun t9 =>
    (zgI V x1 [4] 8).bind fun t10 =>
    (zsZ V t9 2 t1 t10).bind fun V =>
    zrV V n))
set_option maxHeartbeats 4000000 in
set_option maxRecDepth 100000 in
theorem bM_keepStateOf {x : zX} {w : zR} (C : zC x prog_5_method_2_code "BarrierMarks$Mark" "keepStateOf" 3 0 0 none) (M : zM x (zc w) (zs w)) : ∀ (V : zV) (n : Nat) (a0 : Nat) (x1 : Option Nat), fM_keepStateOf V n a0 x1 = some w → zZ x 3 0 0 w V n 0 [(0, va_rf (some a0)), (1, va_rf x1)] [] := by
  intro V n a0 x1 h
  unfold fM_keepStateOf at h
  refine z_aload_n C 1 dM_keepStateOf_0 rfl rfl ?_
  refine z_getI C fl_M_45 dM_keepStateOf_1 h (fun t1 h => ?_)
  refine z_istore_n (lv' := [(2, .int t1), (0, va_rf (some a0)), (1, va_rf x1)]) (i := 2) C dM_keepStateOf_4 rfl (by decide) (by first | rfl | simp [zrfcat]) ?_
  refine z_iload_n C 0 dM_keepStateOf_5 rfl rfl ?_
  refine z_if_lt C 55 dM_keepStateOf_6 (by decide) h (fun h => ?_) (fun h => ?_)
  · exact z_vret C M (Nat.zero_le _) (Nat.zero_le _) dM_keepStateOf_55 h
  · refine z_iload_n C 0 dM_keepStateOf_9 rfl rfl ?_
    refine z_aload_n C 1 dM_keepStateOf_10 rfl rfl ?_
    refine z_getR C fl_M_24 dM_keepStateOf_11 h (fun t2 h => ?_)
    refine z_alen C rfl dM_keepStateOf_14 h (fun t3 h => ?_)
    refine z_icmp_ge C 55 dM_keepStateOf_15 (by decide) h (fun h => ?_) (fun h => ?_)
    · exact z_vret C M (Nat.zero_le _) (Nat.zero_le _) dM_keepStateOf_55 h
    · refine z_aload_n C 1 dM_keepStateOf_18 rfl rfl ?_
      refine z_getR C fl_M_24 dM_keepStateOf_19 h (fun t4 h => ?_)
      refine z_iload_n C 0 dM_keepStateOf_22 rfl rfl ?_
      refine z_iconst (v := 1) C dM_keepStateOf_23 (by decide) ?_
      refine z_zast C rfl dM_keepStateOf_24 h (fun V h => ?_)
      refine z_aload_n C 1 dM_keepStateOf_25 rfl rfl ?_
      refine z_getR C fl_M_34 dM_keepStateOf_26 h (fun t5 h => ?_)
      refine z_iload_n C 0 dM_keepStateOf_29 rfl rfl ?_
      refine z_aload_n C 2 dM_keepStateOf_30 rfl rfl ?_
      refine z_getL C fl_M_48 dM_keepStateOf_31 h (fun t6 h => ?_)
      refine z_last C rfl dM_keepStateOf_34 h (fun V h => ?_)
      refine z_aload_n C 1 dM_keepStateOf_35 rfl rfl ?_
      refine z_getR C fl_M_38 dM_keepStateOf_36 h (fun t7 h => ?_)
      refine z_iload_n C 0 dM_keepStateOf_39 rfl rfl ?_
      refine z_aload_n C 2 dM_keepStateOf_40 rfl rfl ?_
      refine z_getI C fl_M_52 dM_keepStateOf_41 h (fun t8 h => ?_)
      refine z_iast C rfl dM_keepStateOf_44 h (fun V h => ?_)
      refine z_aload_n C 1 dM_keepStateOf_45 rfl rfl ?_
      refine z_getR C fl_M_42 dM_keepStateOf_46 h (fun t9 h => ?_)
      refine z_iload_n C 0 dM_keepStateOf_49 rfl rfl ?_
      refine z_aload_n C 2 dM_keepStateOf_50 rfl rfl ?_
      refine z_getI C fl_M_54 dM_keepStateOf_51 h (fun t10 h => ?_)
      refine z_zast C rfl dM_keepStateOf_54 h (fun V h => ?_)
      exact z_vret C M (Nat.zero_le _) (Nat.zero_le _) dM_keepStateOf_55 h
theorem mM_keepStateOf {l : Launch} {D : va_G} {dA : Nat → ClassId} {V : zV} {n : Nat} (hl : l.stackTraces = false) {a0 : Nat} {x1 : Option Nat} {w : zR} (h : fM_keepStateOf V n a0 x1 = some w) : z_Met l ⟨"BarrierMarks$Mark", "keepStateOf", "(LBarrierMarks$Task;)V"⟩ prog_5_method_2_code 3 none 0 0 (zc w) (zs w) [.ref a0, va_rf x1] D dA V n w := by cases x1 <;> exact z_ofZ hl (by decide) (Nat.le_of_ble_eq_true rfl) (fun x C M => bM_keepStateOf C M V n a0 _ h)
