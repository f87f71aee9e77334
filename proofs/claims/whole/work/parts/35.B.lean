/-! BarrierMarks.<init>(I)V -/
def fB_init_54 : Nat → zV → Nat → Nat → Int32 → Int32 → Option zR
  | 0 => fun _ _ _ _ _ => none
  | f9 + 1 => fun V n a0 x2 x3 =>
    if x2 ≤ x3 then (
    znwa V n 1 8 x2 (.inr (.inl (fun _ => 0))) fun t1 V n =>
    (zpR V (some a0) [5] 4 (some t1)).bind fun V =>
    znwa V n 0 8 x2 (.inl (fun _ => 0)) fun t2 V n =>
    (zpR V (some a0) [5] 5 (some t2)).bind fun V =>
    zrV V n) else (
    (zgR V (some a0) [5] 0).bind fun t3 =>
    znw V n (.inr (4, zfs4)) fun t4 V n =>
    zdV (fT_init V n t4 x3) fun V n =>
    (zsR V t3 3 [4] x3 (some t4)).bind fun V =>
    (fB_init_54 f9) V n a0 x2 (x3 + 1))
set_option maxHeartbeats 4000000 in
set_option maxRecDepth 100000 in
theorem bB_init_54 {x : zX} {w : zR} (C : zC x prog_1_method_1_code "BarrierMarks" "<init>" 4 2 33 none) (M : zM x 200 2000) : ∀ (f9 cells slots : Nat) (V : zV) (n : Nat) (a0 : Nat) (x2 : Int32) (x3 : Int32), cells + 3 * f9 + 2 ≤ 200 → slots + 41 * f9 + 16 ≤ 2000 → fB_init_54 f9 V n a0 x2 x3 = some w → zZ x 4 cells slots w V n 54 [(0, va_rf (some a0)), (2, .int x2), (3, .int x3)] [] := by
  intro f9
  induction f9 with
  | zero =>
    intro cells slots V n a0 x2 x3 hc9 hs9 h
    cases h
  | succ f9 ih =>
    intro cells slots V n a0 x2 x3 hc9 hs9 h
    unfold fB_init_54 at h
    refine z_iload_n C 2 dB_init_54 rfl rfl ?_
    refine z_iload_n C 1 dB_init_55 rfl rfl ?_
    refine z_icmp_ge C 79 dB_init_56 (by decide) h (fun h => ?_) (fun h => ?_)
    · refine z_aload_n C 0 dB_init_79 rfl rfl ?_
      refine z_iload_n C 1 dB_init_80 rfl rfl ?_
      refine z_newaK (at9 := .long) C M rfl rfl na_1 (fun _ _ => rfl) (fun _ _ => rfl) (by decide) (by omega) (by omega) dB_init_81 h (fun t1 V n h => ?_)
      refine z_putR C pf_B_46 zfitA (fun _ => rfl) dB_init_83 h (fun V h => ?_)
      refine z_aload_n C 0 dB_init_86 rfl rfl ?_
      refine z_iload_n C 1 dB_init_87 rfl rfl ?_
      refine z_newaK (at9 := .int) C M rfl rfl na_0 (fun _ _ => rfl) (fun _ _ => rfl) (by decide) (by omega) (by omega) dB_init_88 h (fun t2 V n h => ?_)
      refine z_putR C pf_B_50 zfitA (fun _ => rfl) dB_init_90 h (fun V h => ?_)
      exact z_vret C M (by omega) (by omega) dB_init_93 h
    · refine z_aload_n C 0 dB_init_59 rfl rfl ?_
      refine z_getR C fl_B_39 dB_init_60 h (fun t3 h => ?_)
      refine z_iload_n C 2 dB_init_63 rfl rfl ?_
      refine z_newK C M (ci := 4) rfl zi4 zt4 zd4 nl_B_37 ni_4 nz_4 (by omega) (by omega) dB_init_64 h (fun t4 V n h _ _ _ => ?_)
      refine z_dup C dB_init_67 (zrfcat _) ?_
      refine z_iload_n C 2 dB_init_68 rfl rfl ?_
      refine z_iS (mc1 := 2) (ms1 := 32) (b := t4) C M (by omega) (by omega) [.int x3] cn_B_43 (by decide) (by decide) rfl rfl (by first | decide | (simp [zrfcat, zicat, zlcat]; done)) dB_init_69 h (fun w1 e1 l D dA hl => mT_init hl e1) (fun V n h => ?_)
      refine z_aast C rfl ae_3 dB_init_72 h (fun V h => ?_)
      refine z_iinc (lv' := [(3, .int (x3 + 1)), (0, va_rf (some a0)), (2, .int x2)]) C 2 dB_init_73 rfl rfl (by decide) rfl ?_
      refine z_goto C 54 dB_init_76 (by decide) ?_
      refine z_sub [1, 2, 0] rfl ?_
      exact ih _ _ V n a0 x2 (x3 + 1) (by omega) (by omega) h
def fB_init (V : zV) (n : Nat) (a0 : Nat) (x1 : Int32) : Option zR :=
    znwa V n 4 16 (16 : Int32) (.inr (.inr (.inr (.inr (fun _ => none))))) fun t1 V n =>
    (zpR V (some a0) [5] 1 (some t1)).bind fun V =>
    znwa V n 6 40 (40 : Int32) (.inr (.inr (.inr (.inr (fun _ => none))))) fun t2 V n =>
    (zpR V (some a0) [5] 2 (some t2)).bind fun V =>
    znw V n (.inr (0, zfs0)) fun t3 V n =>
    zdV (fK_init V n t3) fun V n =>
    (zpR V (some a0) [5] 3 (some t3)).bind fun V =>
    znwa V n 3 8 ((if (1 : Int32) < (if (8 : Int32) < x1 then (8 : Int32) else x1) then (if (8 : Int32) < x1 then (8 : Int32) else x1) else (1 : Int32))) (.inr (.inr (.inr (.inr (fun _ => none))))) fun t4 V n =>
    (zpR V (some a0) [5] 0 (some t4)).bind fun V =>
    fB_init_54 9 V n a0 ((if (1 : Int32) < (if (8 : Int32) < x1 then (8 : Int32) else x1) then (if (8 : Int32) < x1 then (8 : Int32) else x1) else (1 : Int32))) (0 : Int32)
set_option maxHeartbeats 4000000 in
set_option maxRecDepth 100000 in
theorem bB_init {x : zX} {w : zR} (C : zC x prog_1_method_1_code "BarrierMarks" "<init>" 4 2 33 none) (M : zM x 200 2000) : ∀ (V : zV) (n : Nat) (a0 : Nat) (x1 : Int32), fB_init V n a0 x1 = some w → zZ x 4 0 0 w V n 0 [(0, va_rf (some a0)), (1, .int x1)] [] := by
  intro V n a0 x1 h
  unfold fB_init at h
  refine z_aload_n C 0 dB_init_0 rfl rfl ?_
  refine z_objInit C ol_B_3 oi_ oc_ (by decide) (by first | decide | (simp [zrfcat, zicat, zlcat]; done)) dB_init_1 ?_
  refine z_aload_n C 0 dB_init_4 rfl rfl ?_
  refine z_bipush (v := 16) C dB_init_5 (by decide) ?_
  refine z_anewK C M rfl nl_B_9 (by decide +kernel) (by decide) (by decide) (by decide) dB_init_7 h (fun t1 V n h => ?_)
  refine z_putR C pf_B_11 zfitA (fun _ => rfl) dB_init_10 h (fun V h => ?_)
  refine z_aload_n C 0 dB_init_13 rfl rfl ?_
  refine z_bipush (v := 40) C dB_init_14 (by decide) ?_
  refine z_anewK C M rfl nl_B_15 (by decide +kernel) (by decide) (by decide) (by decide) dB_init_16 h (fun t2 V n h => ?_)
  refine z_putR C pf_B_17 zfitA (fun _ => rfl) dB_init_19 h (fun V h => ?_)
  refine z_aload_n C 0 dB_init_22 rfl rfl ?_
  refine z_newK C M (ci := 0) rfl zi0 zt0 zd0 nl_B_21 ni_0 nz_0 (by decide) (by decide) dB_init_23 h (fun t3 V n h _ _ _ => ?_)
  refine z_dup C dB_init_26 (zrfcat _) ?_
  refine z_nS (mc1 := 2) (ms1 := 1040) (b := t3) C M (by decide) (by decide) [] cp_K (by decide) (by decide) rfl rfl (by first | decide | (simp [zrfcat, zicat, zlcat]; done)) dB_init_27 h (fun w1 e1 l D dA hl => mK_init hl e1) (fun V n h => ?_)
  refine z_putR C pf_B_24 zfitO (fun _ => rfl) dB_init_30 h (fun V h => ?_)
  refine z_iconst (v := 1) C dB_init_33 (by decide) ?_
  refine z_iload_n C 1 dB_init_34 rfl rfl ?_
  refine z_bipush (v := 8) C dB_init_35 (by decide) ?_
  refine z_min C M ml_B_28 ms_min mi_ mc_min (by decide) (by first | decide | (simp [zrfcat, zicat, zlcat]; done)) (by decide) (by decide) dB_init_37 ?_
  refine z_max C M ml_B_34 ms_max mi_ mc_max (by decide) (by first | decide | (simp [zrfcat, zicat, zlcat]; done)) (by decide) (by decide) dB_init_40 ?_
  refine z_istore_n (lv' := [(2, .int (if (1 : Int32) < (if (8 : Int32) < x1 then (8 : Int32) else x1) then (if (8 : Int32) < x1 then (8 : Int32) else x1) else (1 : Int32))), (0, va_rf (some a0)), (1, .int x1)]) (i := 2) C dB_init_43 rfl (by decide) rfl ?_
  refine z_aload_n C 1 dB_init_44 rfl rfl ?_
  refine z_iload_n C 0 dB_init_45 rfl rfl ?_
  refine z_anewK C M rfl nl_B_37 (by decide +kernel) (by decide) (by decide) (by decide) dB_init_46 h (fun t4 V n h => ?_)
  refine z_putR C pf_B_39 zfitA (fun _ => rfl) dB_init_49 h (fun V h => ?_)
  refine z_iconst (v := 0) C dB_init_52 (by decide) ?_
  refine z_istore_n (lv' := [(3, .int (0 : Int32)), (2, .int (if (1 : Int32) < (if (8 : Int32) < x1 then (8 : Int32) else x1) then (if (8 : Int32) < x1 then (8 : Int32) else x1) else (1 : Int32))), (0, va_rf (some a0)), (1, .int x1)]) (i := 3) C dB_init_53 rfl (by decide) rfl ?_
  refine z_sub [2, 1, 0] rfl ?_
  exact bB_init_54 C M 9 _ _ V n a0 ((if (1 : Int32) < (if (8 : Int32) < x1 then (8 : Int32) else x1) then (if (8 : Int32) < x1 then (8 : Int32) else x1) else (1 : Int32))) (0 : Int32) (by decide) (by decide) h
theorem mB_init {l : Launch} {D : va_G} {dA : Nat → ClassId} {V : zV} {n : Nat} (hl : l.stackTraces = false) {a0 : Nat} {x1 : Int32} {w : zR} (h : fB_init V n a0 x1 = some w) : z_Met l ⟨"BarrierMarks", "<init>", "(I)V"⟩ prog_1_method_1_code 4 none 2 33 200 2000 [.ref a0, .int x1] D dA V n w := by exact z_ofZ hl (by decide) (Nat.le_of_ble_eq_true rfl) (fun x C M => bB_init C M V n a0 x1 h)
/-! BarrierMarks.taskAt(I)LBarrierMarks$Task; -/
def fB_taskAt (V : zV) (n : Nat) (a0 : Nat) (x1 : Int32) : Option zR :=
    if x1 < 0 then (
    zth "java/lang/IndexOutOfBoundsException" V n) else (
    (zgR V (some a0) [5] 0).bind fun t1 =>
    (zalen V t1 3).bind fun t2 =>
    if x1 < t2 then (
    (zgR V (some a0) [5] 0).bind fun t3 =>
    (zaR V t3 3 x1).bind fun t4 =>
    zrR t4 V n) else (
    zth "java/lang/IndexOutOfBoundsException" V n))
set_option maxHeartbeats 4000000 in
set_option maxRecDepth 100000 in
theorem bB_taskAt {x : zX} {w : zR} (C : zC x prog_1_method_25_code "BarrierMarks" "taskAt" 2 6 82 (some (.object "BarrierMarks$Task"))) (M : zM x (zc w) (zs w)) : ∀ (V : zV) (n : Nat) (a0 : Nat) (x1 : Int32), fB_taskAt V n a0 x1 = some w → zZ x 2 0 0 w V n 0 [(0, va_rf (some a0)), (1, .int x1)] [] := by
  intro V n a0 x1 h
  unfold fB_taskAt at h
  refine z_iload_n C 1 dB_taskAt_0 rfl rfl ?_
  refine z_if_lt C 13 dB_taskAt_1 (by decide) h (fun h => ?_) (fun h => ?_)
  · obtain rfl := Option.some.inj h
    exact z_throwSW C M th_B_260_240 (by decide) (by decide) (Nat.le_refl _) (Nat.le_refl _) dB_taskAt_13 dB_taskAt_16 dB_taskAt_17 dB_taskAt_20 dB_taskAt_23 rfl
  · refine z_iload_n C 1 dB_taskAt_4 rfl rfl ?_
    refine z_aload_n C 0 dB_taskAt_5 rfl rfl ?_
    refine z_getR C fl_B_39 dB_taskAt_6 h (fun t1 h => ?_)
    refine z_alen C rfl dB_taskAt_9 h (fun t2 h => ?_)
    refine z_icmp_lt C 24 dB_taskAt_10 (by decide) h (fun h => ?_) (fun h => ?_)
    · refine z_aload_n C 0 dB_taskAt_24 rfl rfl ?_
      refine z_getR C fl_B_39 dB_taskAt_25 h (fun t3 h => ?_)
      refine z_iload_n C 1 dB_taskAt_28 rfl rfl ?_
      refine z_aald C rfl dB_taskAt_29 h (fun t4 h => ?_)
      exact z_aret C M (Nat.zero_le _) (Nat.zero_le _) dB_taskAt_30 h
    · obtain rfl := Option.some.inj h
      exact z_throwSW C M th_B_260_240 (by decide) (by decide) (Nat.le_refl _) (Nat.le_refl _) dB_taskAt_13 dB_taskAt_16 dB_taskAt_17 dB_taskAt_20 dB_taskAt_23 rfl
theorem mB_taskAt {l : Launch} {D : va_G} {dA : Nat → ClassId} {V : zV} {n : Nat} (hl : l.stackTraces = false) {a0 : Nat} {x1 : Int32} {w : zR} (h : fB_taskAt V n a0 x1 = some w) : z_Met l ⟨"BarrierMarks", "taskAt", "(I)LBarrierMarks$Task;"⟩ prog_1_method_25_code 2 (some (.object "BarrierMarks$Task")) 6 82 (zc w) (zs w) [.ref a0, .int x1] D dA V n w := by exact z_ofZ hl (by decide) (Nat.le_of_ble_eq_true rfl) (fun x C M => bB_taskAt C M V n a0 x1 h)
/-! BarrierMarks.addChannel(LBarrierMarks$Channel;LBarrierMarks$Task;)I -/
def fB_addChannel (V : zV) (n : Nat) (a0 : Nat) (x1 : Option Nat) (x2 : Option Nat) : Option zR :=
    (zgI V (some a0) [5] 6).bind fun t1 =>
    (zgR V (some a0) [5] 1).bind fun t2 =>
    (zalen V t2 4).bind fun t3 =>
    if t3 ≤ t1 then (
    zrI t1 V n) else (
    (zgR V (some a0) [5] 1).bind fun t4 =>
    (zsR V t4 4 [1, 2] t1 x1).bind fun V =>
    (zgI V (some a0) [5] 6).bind fun t5 =>
    (zpI V (some a0) [5] 6 ((t5 + (1 : Int32)))).bind fun V =>
    (z_obj V x2 [4]).bind fun o => zcV (fT_addInto V n o.1 x1) fun V n =>
    zrI t1 V n)
set_option maxHeartbeats 4000000 in
set_option maxRecDepth 100000 in
theorem bB_addChannel {x : zX} {w : zR} (C : zC x prog_1_method_33_code "BarrierMarks" "addChannel" 4 1 21 (some .int)) (M : zM x (zc w) (zs w)) : ∀ (V : zV) (n : Nat) (a0 : Nat) (x1 : Option Nat) (x2 : Option Nat), fB_addChannel V n a0 x1 x2 = some w → zZ x 4 0 0 w V n 0 [(0, va_rf (some a0)), (1, va_rf x1), (2, va_rf x2)] [] := by
  intro V n a0 x1 x2 h
  unfold fB_addChannel at h
  refine z_aload_n C 0 dB_addChannel_0 rfl rfl ?_
  refine z_getI C fl_B_62 dB_addChannel_1 h (fun t1 h => ?_)
  refine z_istore_n (lv' := [(3, .int t1), (0, va_rf (some a0)), (1, va_rf x1), (2, va_rf x2)]) (i := 3) C dB_addChannel_4 rfl (by decide) (by first | rfl | simp [zrfcat]) ?_
  refine z_iload_n C 0 dB_addChannel_5 rfl rfl ?_
  refine z_aload_n C 1 dB_addChannel_6 rfl rfl ?_
  refine z_getR C fl_B_11 dB_addChannel_7 h (fun t2 h => ?_)
  refine z_alen C rfl dB_addChannel_10 h (fun t3 h => ?_)
  refine z_icmp_ge C 36 dB_addChannel_11 (by decide) h (fun h => ?_) (fun h => ?_)
  · refine z_iload_n C 0 dB_addChannel_36 rfl rfl ?_
    exact z_iret C M (Nat.zero_le _) (Nat.zero_le _) dB_addChannel_37 h
  · refine z_aload_n C 1 dB_addChannel_14 rfl rfl ?_
    refine z_getR C fl_B_11 dB_addChannel_15 h (fun t4 h => ?_)
    refine z_iload_n C 0 dB_addChannel_18 rfl rfl ?_
    refine z_aload_n C 2 dB_addChannel_19 rfl rfl ?_
    refine z_aast C rfl ae_4 dB_addChannel_20 h (fun V h => ?_)
    refine z_aload_n C 1 dB_addChannel_21 rfl rfl ?_
    refine z_dup C dB_addChannel_22 (zrfcat _) ?_
    refine z_getI C fl_B_62 dB_addChannel_23 h (fun t5 h => ?_)
    refine z_iconst (v := 1) C dB_addChannel_26 (by decide) ?_
    refine z_iadd C dB_addChannel_27 ?_
    refine z_putI C pf_B_62 (fun h => absurd h (by decide)) dB_addChannel_28 h (fun V h => ?_)
    refine z_aload_n C 3 dB_addChannel_31 rfl rfl ?_
    refine z_aload_n C 2 dB_addChannel_32 rfl rfl ?_
    refine z_vPV (ci := 4) C M zRmP [va_rf x1] cv_B_275 rfl (by decide) (by decide) rfl rfl (Nat.zero_le _) dB_addChannel_33 (fun b => fT_addInto V n b x1) h (fun b w1 e1 l D dA hl => mT_addInto hl e1) (fun V n h => ?_)
    refine z_iload_n C 0 dB_addChannel_36 rfl rfl ?_
    exact z_iret C M (Nat.zero_le _) (Nat.zero_le _) dB_addChannel_37 h
theorem mB_addChannel {l : Launch} {D : va_G} {dA : Nat → ClassId} {V : zV} {n : Nat} (hl : l.stackTraces = false) {a0 : Nat} {x1 : Option Nat} {x2 : Option Nat} {w : zR} (h : fB_addChannel V n a0 x1 x2 = some w) : z_Met l ⟨"BarrierMarks", "addChannel", "(LBarrierMarks$Channel;LBarrierMarks$Task;)I"⟩ prog_1_method_33_code 4 (some .int) 1 21 (zc w) (zs w) [.ref a0, va_rf x1, va_rf x2] D dA V n w := by cases x1 <;> cases x2 <;> exact z_ofZ hl (by decide) (Nat.le_of_ble_eq_true rfl) (fun x C M => bB_addChannel C M V n a0 _ _ h)
/-! BarrierMarks.leadsOnTo(II)Z -/
def fB_leadsOnTo_69 (K7 : zV → Nat → Nat → Int32 → Int32 → Int32 → Option zR) (K20 : zV → Nat → Nat → Int32 → Int32 → Int32 → Int32 → Option zR) (V : zV) (n : Nat) (a0 : Nat) (x2 : Int32) (x3 : Int32) (x4 : Int32) (x5 : Int32) : Option zR :=
    K20 V n a0 x2 x3 x4 (x5 + 1)
set_option maxHeartbeats 4000000 in
set_option maxRecDepth 100000 in
theorem bB_leadsOnTo_69 {x : zX} {w : zR} {K7 : zV → Nat → Nat → Int32 → Int32 → Int32 → Option zR} {K20 : zV → Nat → Nat → Int32 → Int32 → Int32 → Int32 → Option zR} (C : zC x prog_1_method_34_code "BarrierMarks" "leadsOnTo" 7 0 0 (some .boolean)) (M : zM x (zc w) (zs w)) (hK7 : ∀ (V : zV) (n : Nat) (a0 : Nat) (x2 : Int32) (x3 : Int32) (x4 : Int32), K7 V n a0 x2 x3 x4 = some w → zZ x 7 0 0 w V n 7 [(0, va_rf (some a0)), (2, .int x2), (3, .int x3), (4, .int x4)] []) (hK20 : ∀ (V : zV) (n : Nat) (a0 : Nat) (x2 : Int32) (x3 : Int32) (x4 : Int32) (x5 : Int32), K20 V n a0 x2 x3 x4 x5 = some w → zZ x 7 0 0 w V n 20 [(0, va_rf (some a0)), (2, .int x2), (3, .int x3), (4, .int x4), (5, .int x5)] []) : ∀ (V : zV) (n : Nat) (a0 : Nat) (x2 : Int32) (x3 : Int32) (x4 : Int32) (x5 : Int32), fB_leadsOnTo_69 K7 K20 V n a0 x2 x3 x4 x5 = some w → zZ x 7 0 0 w V n 69 [(0, va_rf (some a0)), (2, .int x2), (3, .int x3), (4, .int x4), (5, .int x5)] [] := by
  intro V n a0 x2 x3 x4 x5 h
  unfold fB_leadsOnTo_69 at h
  refine z_iinc (lv' := [(5, .int (x5 + 1)), (0, va_rf (some a0)), (2, .int x2), (3, .int x3), (4, .int x4)]) C 4 dB_leadsOnTo_69 rfl rfl (by decide) rfl ?_
  refine z_goto C 20 dB_leadsOnTo_72 (by decide) ?_
  refine z_sub [1, 2, 3, 4, 0] rfl ?_
  exact hK20 V n a0 x2 x3 x4 (x5 + 1) h
def fB_leadsOnTo_20 (K7 : zV → Nat → Nat → Int32 → Int32 → Int32 → Option zR) : Nat → zV → Nat → Nat → Int32 → Int32 → Int32 → Int32 → Option zR
  | 0 => fun _ _ _ _ _ _ _ => none
  | f9 + 1 => fun V n a0 x2 x3 x4 x5 =>
    (zgI V (some a0) [5] 6).bind fun t1 =>
    if t1 ≤ x5 then (
    K7 V n a0 x2 x3 (x4 + 1)) else (
    (zgR V (some a0) [5] 1).bind fun t2 =>
    (zaR V t2 4 x5).bind fun t3 =>
    (zgI V t3 [1, 2] 0).bind fun t4 =>
    if t4 = (-1 : Int32) then (
    fB_leadsOnTo_69 K7 (fB_leadsOnTo_20 K7 f9) V n a0 x2 x3 x4 x5) else (
    (zgI V t3 [1, 2] 0).bind fun t5 =>
    if (x3 &&& ((1 : Int32) <<< (t5 &&& 31))) = 0 then (
    fB_leadsOnTo_69 K7 (fB_leadsOnTo_20 K7 f9) V n a0 x2 x3 x4 x5) else (
    (zgI V t3 [1, 2] 1).bind fun t6 =>
    fB_leadsOnTo_69 K7 (fB_leadsOnTo_20 K7 f9) V n a0 x2 ((x3 ||| ((1 : Int32) <<< (t6 &&& 31)))) x4 x5)))
set_option maxHeartbeats 4000000 in
set_option maxRecDepth 100000 in
theorem bB_leadsOnTo_20 {x : zX} {w : zR} {K7 : zV → Nat → Nat → Int32 → Int32 → Int32 → Option zR} (C : zC x prog_1_method_34_code "BarrierMarks" "leadsOnTo" 7 0 0 (some .boolean)) (M : zM x (zc w) (zs w)) (hK7 : ∀ (V : zV) (n : Nat) (a0 : Nat) (x2 : Int32) (x3 : Int32) (x4 : Int32), K7 V n a0 x2 x3 x4 = some w → zZ x 7 0 0 w V n 7 [(0, va_rf (some a0)), (2, .int x2), (3, .int x3), (4, .int x4)] []) : ∀ (f9 : Nat) (V : zV) (n : Nat) (a0 : Nat) (x2 : Int32) (x3 : Int32) (x4 : Int32) (x5 : Int32), fB_leadsOnTo_20 K7 f9 V n a0 x2 x3 x4 x5 = some w → zZ x 7 0 0 w V n 20 [(0, va_rf (some a0)), (2, .int x2), (3, .int x3), (4, .int x4), (5, .int x5)] [] := by
  intro f9
  induction f9 with
  | zero =>
    intro V n a0 x2 x3 x4 x5 h
    cases h
  | succ f9 ih =>
    intro V n a0 x2 x3 x4 x5 h
    unfold fB_leadsOnTo_20 at h
    refine z_iload C 4 dB_leadsOnTo_20 rfl ?_
    refine z_aload_n C 0 dB_leadsOnTo_22 rfl rfl ?_
    refine z_getI C fl_B_62 dB_leadsOnTo_23 h (fun t1 h => ?_)
    refine z_icmp_ge C 75 dB_leadsOnTo_26 (by decide) h (fun h => ?_) (fun h => ?_)
    · refine z_iinc (lv' := [(4, .int (x4 + 1)), (0, va_rf (some a0)), (2, .int x2), (3, .int x3), (5, .int x5)]) C 3 dB_leadsOnTo_75 rfl rfl (by decide) rfl ?_
      refine z_goto C 7 dB_leadsOnTo_78 (by decide) ?_
      refine z_sub [1, 2, 3, 0] rfl ?_
      exact hK7 V n a0 x2 x3 (x4 + 1) h
    · refine z_aload_n C 0 dB_leadsOnTo_29 rfl rfl ?_
      refine z_getR C fl_B_11 dB_leadsOnTo_30 h (fun t2 h => ?_)
      refine z_iload C 4 dB_leadsOnTo_33 rfl ?_
      refine z_aald C rfl dB_leadsOnTo_35 h (fun t3 h => ?_)
      refine z_astore (lv' := [(6, va_rf t3), (0, va_rf (some a0)), (2, .int x2), (3, .int x3), (4, .int x4), (5, .int x5)]) C dB_leadsOnTo_36 (by decide) rfl ?_
      refine z_aload C 0 dB_leadsOnTo_38 rfl ?_
      refine z_getI C fl_B_198 dB_leadsOnTo_40 h (fun t4 h => ?_)
      refine z_iconst (v := (-1)) C dB_leadsOnTo_43 (by decide) ?_
      refine z_icmp_eq C 69 dB_leadsOnTo_44 (by decide) h (fun h => ?_) (fun h => ?_)
      · refine z_sub [1, 2, 3, 4, 5] rfl ?_
        exact bB_leadsOnTo_69 C M hK7 ih V n a0 x2 x3 x4 x5 h
      · refine z_iload_n C 3 dB_leadsOnTo_47 rfl rfl ?_
        refine z_iconst (v := 1) C dB_leadsOnTo_48 (by decide) ?_
        refine z_aload C 0 dB_leadsOnTo_49 rfl ?_
        refine z_getI C fl_B_198 dB_leadsOnTo_51 h (fun t5 h => ?_)
        refine z_ishl C dB_leadsOnTo_54 ?_
        refine z_iand C dB_leadsOnTo_55 ?_
        refine z_if_eq C 69 dB_leadsOnTo_56 (by decide) h (fun h => ?_) (fun h => ?_)
        · refine z_sub [1, 2, 3, 4, 5] rfl ?_
          exact bB_leadsOnTo_69 C M hK7 ih V n a0 x2 x3 x4 x5 h
        · refine z_iload_n C 3 dB_leadsOnTo_59 rfl rfl ?_
          refine z_iconst (v := 1) C dB_leadsOnTo_60 (by decide) ?_
          refine z_aload C 0 dB_leadsOnTo_61 rfl ?_
          refine z_getI C fl_B_205 dB_leadsOnTo_63 h (fun t6 h => ?_)
          refine z_ishl C dB_leadsOnTo_66 ?_
          refine z_ior C dB_leadsOnTo_67 ?_
          refine z_istore_n (lv' := [(3, .int (x3 ||| ((1 : Int32) <<< (t6 &&& 31)))), (6, va_rf t3), (0, va_rf (some a0)), (2, .int x2), (4, .int x4), (5, .int x5)]) (i := 3) C dB_leadsOnTo_68 rfl (by decide) rfl ?_
          refine z_sub [2, 3, 0, 4, 5] rfl ?_
          exact bB_leadsOnTo_69 C M hK7 ih V n a0 x2 ((x3 ||| ((1 : Int32) <<< (t6 &&& 31)))) x4 x5 h
def fB_leadsOnTo_7 : Nat → zV → Nat → Nat → Int32 → Int32 → Int32 → Option zR
  | 0 => fun _ _ _ _ _ _ => none
  | f9 + 1 => fun V n a0 x2 x3 x4 =>
    (zgR V (some a0) [5] 0).bind fun t1 =>
    (zalen V t1 3).bind fun t2 =>
    if t2 ≤ x4 then (
    if (x3 &&& ((1 : Int32) <<< (x2 &&& 31))) = 0 then (
    zrZ (0 : Int32) V n) else (
    zrZ (1 : Int32) V n)) else (
    fB_leadsOnTo_20 (fB_leadsOnTo_7 f9) zF V n a0 x2 x3 x4 (0 : Int32))
set_option maxHeartbeats 4000000 in
set_option maxRecDepth 100000 in
theorem bB_leadsOnTo_7 {x : zX} {w : zR} (C : zC x prog_1_method_34_code "BarrierMarks" "leadsOnTo" 7 0 0 (some .boolean)) (M : zM x (zc w) (zs w)) : ∀ (f9 : Nat) (V : zV) (n : Nat) (a0 : Nat) (x2 : Int32) (x3 : Int32) (x4 : Int32), fB_leadsOnTo_7 f9 V n a0 x2 x3 x4 = some w → zZ x 7 0 0 w V n 7 [(0, va_rf (some a0)), (2, .int x2), (3, .int x3), (4, .int x4)] [] := by
  intro f9
  induction f9 with
  | zero =>
    intro V n a0 x2 x3 x4 h
    cases h
  | succ f9 ih =>
    intro V n a0 x2 x3 x4 h
    unfold fB_leadsOnTo_7 at h
    refine z_iload C 3 dB_leadsOnTo_7 rfl ?_
    refine z_aload_n C 0 dB_leadsOnTo_9 rfl rfl ?_
    refine z_getR C fl_B_39 dB_leadsOnTo_10 h (fun t1 h => ?_)
    refine z_alen C rfl dB_leadsOnTo_13 h (fun t2 h => ?_)
    refine z_icmp_ge C 81 dB_leadsOnTo_14 (by decide) h (fun h => ?_) (fun h => ?_)
    · refine z_iload_n C 2 dB_leadsOnTo_81 rfl rfl ?_
      refine z_iconst (v := 1) C dB_leadsOnTo_82 (by decide) ?_
      refine z_iload_n C 1 dB_leadsOnTo_83 rfl rfl ?_
      refine z_ishl C dB_leadsOnTo_84 ?_
      refine z_iand C dB_leadsOnTo_85 ?_
      refine z_if_eq C 93 dB_leadsOnTo_86 (by decide) h (fun h => ?_) (fun h => ?_)
      · refine z_iconst (v := 0) C dB_leadsOnTo_93 (by decide) ?_
        exact z_zret C M (Nat.zero_le _) (Nat.zero_le _) dB_leadsOnTo_94 h
      · refine z_iconst (v := 1) C dB_leadsOnTo_89 (by decide) ?_
        refine z_goto C 94 dB_leadsOnTo_90 (by decide) ?_
        exact z_zret C M (Nat.zero_le _) (Nat.zero_le _) dB_leadsOnTo_94 h
    · refine z_iconst (v := 0) C dB_leadsOnTo_17 (by decide) ?_
      refine z_istore (lv' := [(5, .int (0 : Int32)), (0, va_rf (some a0)), (2, .int x2), (3, .int x3), (4, .int x4)]) C dB_leadsOnTo_18 (by decide) rfl ?_
      refine z_sub [1, 2, 3, 4, 0] rfl ?_
      exact bB_leadsOnTo_20 C M ih zF V n a0 x2 x3 x4 (0 : Int32) h
def fB_leadsOnTo (V : zV) (n : Nat) (a0 : Nat) (x1 : Int32) (x2 : Int32) : Option zR :=
    fB_leadsOnTo_7 zF V n a0 x2 (((1 : Int32) <<< (x1 &&& 31))) (0 : Int32)
set_option maxHeartbeats 4000000 in
set_option maxRecDepth 100000 in
theorem bB_leadsOnTo {x : zX} {w : zR} (C : zC x prog_1_method_34_code "BarrierMarks" "leadsOnTo" 7 0 0 (some .boolean)) (M : zM x (zc w) (zs w)) : ∀ (V : zV) (n : Nat) (a0 : Nat) (x1 : Int32) (x2 : Int32), fB_leadsOnTo V n a0 x1 x2 = some w → zZ x 7 0 0 w V n 0 [(0, va_rf (some a0)), (1, .int x1), (2, .int x2)] [] := by
  intro V n a0 x1 x2 h
  unfold fB_leadsOnTo at h
  refine z_iconst (v := 1) C dB_leadsOnTo_0 (by decide) ?_
  refine z_iload_n C 1 dB_leadsOnTo_1 rfl rfl ?_
  refine z_ishl C dB_leadsOnTo_2 ?_
  refine z_istore_n (lv' := [(3, .int ((1 : Int32) <<< (x1 &&& 31))), (0, va_rf (some a0)), (1, .int x1), (2, .int x2)]) (i := 3) C dB_leadsOnTo_3 rfl (by decide) rfl ?_
  refine z_iconst (v := 0) C dB_leadsOnTo_4 (by decide) ?_
  refine z_istore (lv' := [(4, .int (0 : Int32)), (3, .int ((1 : Int32) <<< (x1 &&& 31))), (0, va_rf (some a0)), (1, .int x1), (2, .int x2)]) C dB_leadsOnTo_5 (by decide) rfl ?_
  refine z_sub [2, 4, 1, 0] rfl ?_
  exact bB_leadsOnTo_7 C M zF V n a0 x2 (((1 : Int32) <<< (x1 &&& 31))) (0 : Int32) h
theorem mB_leadsOnTo {l : Launch} {D : va_G} {dA : Nat → ClassId} {V : zV} {n : Nat} (hl : l.stackTraces = false) {a0 : Nat} {x1 : Int32} {x2 : Int32} {w : zR} (h : fB_leadsOnTo V n a0 x1 x2 = some w) : z_Met l ⟨"BarrierMarks", "leadsOnTo", "(II)Z"⟩ prog_1_method_34_code 7 (some .boolean) 0 0 (zc w) (zs w) [.ref a0, .int x1, .int x2] D dA V n w := by exact z_ofZ hl (by decide) (Nat.le_of_ble_eq_true rfl) (fun x C M => bB_leadsOnTo C M V n a0 x1 x2 h)
/-! BarrierMarks.channel(II)I -/
def fB_channel_20 (V : zV) (n : Nat) (a0 : Nat) (x1 : Int32) (x2 : Int32) (x3 : Option Nat) (s0 : Option Nat) : Option zR :=
    (zgI V (some a0) [5] 9).bind fun t1 =>
    if t1 = 0 then (
    (zgI V (some a0) [5] 6).bind fun t2 =>
    if t2 < (16 : Int32) then (
    if s0 = none then (
    znw V n (.inr (1, zfs1)) fun t7 V n =>
    zdV (fS_init V n t7 x2) fun V n =>
    (z_obj V (some a0) [5]).bind fun o => zcI (fB_addChannel V n o.1 (some t7) x3) fun t8 V n =>
    zrI t8 V n) else (
    (zgI V s0 [4] 3).bind fun t3 =>
    if t3 = 0 then (
    zth "java/lang/IllegalArgumentException" V n) else (
    (z_obj V (some a0) [5]).bind fun o => zcI (fB_leadsOnTo V n o.1 x2 x1) fun t4 V n =>
    if t4 = 0 then (
    znw V n (.inr (2, zfs2)) fun t5 V n =>
    zdV (fL_init V n t5 x1 x2) fun V n =>
    (z_obj V s0 [4]).bind fun o => zcV (fT_addOut V n o.1 (some t5)) fun V n =>
    (z_obj V (some a0) [5]).bind fun o => zcI (fB_addChannel V n o.1 (some t5) x3) fun t6 V n =>
    zrI t6 V n) else (
    zth "java/lang/IllegalArgumentException" V n)))) else (
    zth "java/lang/IllegalStateException" V n)) else (
    zth "java/lang/IllegalStateException" V n)
set_option maxHeartbeats 4000000 in
set_option maxRecDepth 100000 in
theorem bB_channel_20 {x : zX} {w : zR} (C : zC x prog_1_method_2_code "BarrierMarks" "channel" 6 7 103 (some .int)) (M : zM x 6 302) : ∀ (V : zV) (n : Nat) (a0 : Nat) (x1 : Int32) (x2 : Int32) (x3 : Option Nat) (s0 : Option Nat), fB_channel_20 V n a0 x1 x2 x3 s0 = some w → zZ x 6 0 0 w V n 20 [(0, va_rf (some a0)), (1, .int x1), (2, .int x2), (3, va_rf x3)] [va_rf s0] := by
  intro V n a0 x1 x2 x3 s0 h
  unfold fB_channel_20 at h
  refine z_astore (lv' := [(4, va_rf s0), (0, va_rf (some a0)), (1, .int x1), (2, .int x2), (3, va_rf x3)]) C dB_channel_20 (by decide) (by first | rfl | simp [zrfcat]) ?_
  refine z_aload_n C 1 dB_channel_22 rfl rfl ?_
  refine z_getI C fl_B_58 dB_channel_23 h (fun t1 h => ?_)
  refine z_if_ne C 38 dB_channel_26 (by decide) h (fun h => ?_) (fun h => ?_)
  · exact z_throwS C M th_B_68_66 (by decide) (by decide) (by decide) (by decide) dB_channel_38 dB_channel_41 dB_channel_42 dB_channel_44 dB_channel_47 h
  · refine z_aload_n C 1 dB_channel_29 rfl rfl ?_
    refine z_getI C fl_B_62 dB_channel_30 h (fun t2 h => ?_)
    refine z_bipush (v := 16) C dB_channel_33 (by decide) ?_
    refine z_icmp_lt C 48 dB_channel_35 (by decide) h (fun h => ?_) (fun h => ?_)
    · refine z_aload C 0 dB_channel_48 rfl ?_
      refine z_ifnonnull C 67 dB_channel_50 (by decide) h (fun h => ?_) (fun h => ?_)
      · refine z_aload C 0 dB_channel_67 rfl ?_
        refine z_getI C fl_B_80 dB_channel_69 h (fun t3 h => ?_)
        refine z_if_eq C 84 dB_channel_72 (by decide) h (fun h => ?_) (fun h => ?_)
        · exact z_throwS C M th_B_89_87 (by decide) (by decide) (by decide) (by decide) dB_channel_84 dB_channel_87 dB_channel_88 dB_channel_90 dB_channel_93 h
        · refine z_aload_n C 1 dB_channel_75 rfl rfl ?_
          refine z_iload_n C 3 dB_channel_76 rfl rfl ?_
          refine z_iload_n C 2 dB_channel_77 rfl rfl ?_
          refine z_vPI (ci := 5) C M (zRmS (by decide) (by decide)) [.int x2, .int x1] cv_B_83 rfl (by decide) (by decide) rfl rfl (Nat.zero_le _) dB_channel_78 (fun b => fB_leadsOnTo V n b x2 x1) h (fun b w1 e1 l D dA hl => mB_leadsOnTo hl e1) (fun t4 V n h => ?_)
          refine z_if_eq C 94 dB_channel_81 (by decide) h (fun h => ?_) (fun h => ?_)
          · refine z_newK C M (ci := 2) rfl zi2 zt2 zd2 nl_B_92 ni_2 nz_2 (by decide) (by decide) dB_channel_94 h (fun t5 V n h _ _ _ => ?_)
            refine z_dup C dB_channel_97 (zrfcat _) ?_
            refine z_iload_n C 2 dB_channel_98 rfl rfl ?_
            refine z_iload_n C 3 dB_channel_99 rfl rfl ?_
            refine z_iS (mc1 := 2) (ms1 := 18) (b := t5) C M (by decide) (by decide) [.int x1, .int x2] cn_B_94 (by decide) (by decide) rfl rfl (by first | decide | (simp [zrfcat, zicat, zlcat]; done)) dB_channel_100 h (fun w1 e1 l D dA hl => mL_init hl e1) (fun V n h => ?_)
            refine z_astore (lv' := [(5, va_rf (some t5)), (4, va_rf s0), (0, va_rf (some a0)), (1, .int x1), (2, .int x2), (3, va_rf x3)]) C dB_channel_103 (by decide) (by first | rfl | simp [zrfcat]) ?_
            refine z_aload C 1 dB_channel_105 rfl ?_
            refine z_aload C 0 dB_channel_107 rfl ?_
            refine z_vPV (ci := 4) C M (zRmS (by decide) (by decide)) [va_rf (some t5)] cv_B_97 rfl (by decide) (by decide) rfl rfl (Nat.zero_le _) dB_channel_109 (fun b => fT_addOut V n b (some t5)) h (fun b w1 e1 l D dA hl => mT_addOut hl e1) (fun V n h => ?_)
            refine z_aload_n C 2 dB_channel_112 rfl rfl ?_
            refine z_aload C 0 dB_channel_113 rfl ?_
            refine z_aload_n C 5 dB_channel_115 rfl rfl ?_
            refine z_vPI (ci := 5) C M (zRmS (by decide) (by decide)) [va_rf (some t5), va_rf x3] cv_B_76 rfl (by decide) (by decide) rfl rfl (Nat.zero_le _) dB_channel_116 (fun b => fB_addChannel V n b (some t5) x3) h (fun b w1 e1 l D dA hl => mB_addChannel hl e1) (fun t6 V n h => ?_)
            exact z_iret C M (by decide) (by decide) dB_channel_119 h
          · exact z_throwS C M th_B_89_87 (by decide) (by decide) (by decide) (by decide) dB_channel_84 dB_channel_87 dB_channel_88 dB_channel_90 dB_channel_93 h
      · refine z_aload_n C 1 dB_channel_53 rfl rfl ?_
        refine z_newK C M (ci := 1) rfl zi1 zt1 zd1 nl_B_73 ni_1 nz_1 (by decide) (by decide) dB_channel_54 h (fun t7 V n h _ _ _ => ?_)
        refine z_dup C dB_channel_57 (zrfcat _) ?_
        refine z_iload_n C 3 dB_channel_58 rfl rfl ?_
        refine z_iS (mc1 := 4) (ms1 := 283) (b := t7) C M (by decide) (by decide) [.int x2] cn_B_75 (by decide) (by decide) rfl rfl (by first | decide | (simp [zrfcat, zicat, zlcat]; done)) dB_channel_59 h (fun w1 e1 l D dA hl => mS_init hl e1) (fun V n h => ?_)
        refine z_aload_n C 4 dB_channel_62 rfl rfl ?_
        refine z_vPI (ci := 5) C M (zRmS (by decide) (by decide)) [va_rf (some t7), va_rf x3] cv_B_76 rfl (by decide) (by decide) rfl rfl (Nat.zero_le _) dB_channel_63 (fun b => fB_addChannel V n b (some t7) x3) h (fun b w1 e1 l D dA hl => mB_addChannel hl e1) (fun t8 V n h => ?_)
        exact z_iret C M (by decide) (by decide) dB_channel_66 h
    · exact z_throwS C M th_B_68_66 (by decide) (by decide) (by decide) (by decide) dB_channel_38 dB_channel_41 dB_channel_42 dB_channel_44 dB_channel_47 h
def fB_channel (V : zV) (n : Nat) (a0 : Nat) (x1 : Int32) (x2 : Int32) : Option zR :=
    (z_obj V (some a0) [5]).bind fun o => zcR (fB_taskAt V n o.1 x2) fun t1 V n =>
    if x1 = (-1 : Int32) then (
    fB_channel_20 V n a0 x1 x2 t1 none) else (
    (z_obj V (some a0) [5]).bind fun o => zcR (fB_taskAt V n o.1 x1) fun t2 V n =>
    fB_channel_20 V n a0 x1 x2 t1 t2)
set_option maxHeartbeats 4000000 in
set_option maxRecDepth 100000 in
theorem bB_channel {x : zX} {w : zR} (C : zC x prog_1_method_2_code "BarrierMarks" "channel" 6 7 103 (some .int)) (M : zM x 6 302) : ∀ (V : zV) (n : Nat) (a0 : Nat) (x1 : Int32) (x2 : Int32), fB_channel V n a0 x1 x2 = some w → zZ x 6 0 0 w V n 0 [(0, va_rf (some a0)), (1, .int x1), (2, .int x2)] [] := by
  intro V n a0 x1 x2 h
  unfold fB_channel at h
  refine z_aload_n C 0 dB_channel_0 rfl rfl ?_
  refine z_iload_n C 2 dB_channel_1 rfl rfl ?_
  refine z_vPR (ci := 5) C M (zRmS (by decide) (by decide)) [.int x2] cv_B_54 rfl (by decide) (by decide) rfl rfl (Nat.zero_le _) dB_channel_2 (fun b => fB_taskAt V n b x2) h (fun b w1 e1 l D dA hl => mB_taskAt hl e1) (fun t1 V n h => ?_)
  refine z_astore_n (lv' := [(3, va_rf t1), (0, va_rf (some a0)), (1, .int x1), (2, .int x2)]) (i := 3) C dB_channel_5 rfl (by decide) rfl ?_
  refine z_iload_n C 2 dB_channel_6 rfl rfl ?_
  refine z_iconst (v := (-1)) C dB_channel_7 (by decide) ?_
  refine z_icmp_ne C 15 dB_channel_8 (by decide) h (fun h => ?_) (fun h => ?_)
  · refine z_aload_n C 1 dB_channel_15 rfl rfl ?_
    refine z_iload_n C 2 dB_channel_16 rfl rfl ?_
    refine z_vPR (ci := 5) C M (zRmS (by decide) (by decide)) [.int x1] cv_B_54 rfl (by decide) (by decide) rfl rfl (Nat.zero_le _) dB_channel_17 (fun b => fB_taskAt V n b x1) h (fun b w1 e1 l D dA hl => mB_taskAt hl e1) (fun t2 V n h => ?_)
    refine z_sub [1, 2, 3, 0] rfl ?_
    exact bB_channel_20 C M V n a0 x1 x2 t1 t2 h
  · refine z_null C dB_channel_11 ?_
    refine z_goto C 20 dB_channel_12 (by decide) ?_
    refine z_sub [1, 2, 3, 0] rfl ?_
    exact bB_channel_20 C M V n a0 x1 x2 t1 none h
theorem mB_channel {l : Launch} {D : va_G} {dA : Nat → ClassId} {V : zV} {n : Nat} (hl : l.stackTraces = false) {a0 : Nat} {x1 : Int32} {x2 : Int32} {w : zR} (h : fB_channel V n a0 x1 x2 = some w) : z_Met l ⟨"BarrierMarks", "channel", "(II)I"⟩ prog_1_method_2_code 6 (some .int) 7 103 6 302 [.ref a0, .int x1, .int x2] D dA V n w := by exact z_ofZ hl (by decide) (Nat.le_of_ble_eq_true rfl) (fun x C M => bB_channel C M V n a0 x1 x2 h)
/-! BarrierMarks.channelAt(I)LBarrierMarks$Channel; -/
def fB_channelAt (V : zV) (n : Nat) (a0 : Nat) (x1 : Int32) : Option zR :=
    if x1 < 0 then (
    zth "java/lang/IndexOutOfBoundsException" V n) else (
    (zgI V (some a0) [5] 6).bind fun t1 =>
    if x1 < t1 then (
    (zgR V (some a0) [5] 1).bind fun t2 =>
    (zaR V t2 4 x1).bind fun t3 =>
    zrR t3 V n) else (
    zth "java/lang/IndexOutOfBoundsException" V n))
set_option maxHeartbeats 4000000 in
set_option maxRecDepth 100000 in
theorem bB_channelAt {x : zX} {w : zR} (C : zC x prog_1_method_26_code "BarrierMarks" "channelAt" 2 6 82 (some (.object "BarrierMarks$Channel"))) (M : zM x (zc w) (zs w)) : ∀ (V : zV) (n : Nat) (a0 : Nat) (x1 : Int32), fB_channelAt V n a0 x1 = some w → zZ x 2 0 0 w V n 0 [(0, va_rf (some a0)), (1, .int x1)] [] := by
  intro V n a0 x1 h
  unfold fB_channelAt at h
  refine z_iload_n C 1 dB_channelAt_0 rfl rfl ?_
  refine z_if_lt C 12 dB_channelAt_1 (by decide) h (fun h => ?_) (fun h => ?_)
  · obtain rfl := Option.some.inj h
    exact z_throwSW C M th_B_262_240 (by decide) (by decide) (Nat.le_refl _) (Nat.le_refl _) dB_channelAt_12 dB_channelAt_15 dB_channelAt_16 dB_channelAt_19 dB_channelAt_22 rfl
  · refine z_iload_n C 1 dB_channelAt_4 rfl rfl ?_
    refine z_aload_n C 0 dB_channelAt_5 rfl rfl ?_
    refine z_getI C fl_B_62 dB_channelAt_6 h (fun t1 h => ?_)
    refine z_icmp_lt C 23 dB_channelAt_9 (by decide) h (fun h => ?_) (fun h => ?_)
    · refine z_aload_n C 0 dB_channelAt_23 rfl rfl ?_
      refine z_getR C fl_B_11 dB_channelAt_24 h (fun t2 h => ?_)
      refine z_iload_n C 1 dB_channelAt_27 rfl rfl ?_
      refine z_aald C rfl dB_channelAt_28 h (fun t3 h => ?_)
      exact z_aret C M (Nat.zero_le _) (Nat.zero_le _) dB_channelAt_29 h
    · obtain rfl := Option.some.inj h
      exact z_throwSW C M th_B_262_240 (by decide) (by decide) (Nat.le_refl _) (Nat.le_refl _) dB_channelAt_12 dB_channelAt_15 dB_channelAt_16 dB_channelAt_19 dB_channelAt_22 rfl
theorem mB_channelAt {l : Launch} {D : va_G} {dA : Nat → ClassId} {V : zV} {n : Nat} (hl : l.stackTraces = false) {a0 : Nat} {x1 : Int32} {w : zR} (h : fB_channelAt V n a0 x1 = some w) : z_Met l ⟨"BarrierMarks", "channelAt", "(I)LBarrierMarks$Channel;"⟩ prog_1_method_26_code 2 (some (.object "BarrierMarks$Channel")) 6 82 (zc w) (zs w) [.ref a0, .int x1] D dA V n w := by exact z_ofZ hl (by decide) (Nat.le_of_ble_eq_true rfl) (fun x C M => bB_channelAt C M V n a0 x1 h)
/-! BarrierMarks.sourceAt(I)LBarrierMarks$Source; -/
def fB_sourceAt (V : zV) (n : Nat) (a0 : Nat) (x1 : Int32) : Option zR :=
    (z_obj V (some a0) [5]).bind fun o => zcR (fB_channelAt V n o.1 x1) fun t1 V n =>
    (zinst V t1 [1, 2] 1).bind fun t2 =>
    if t2 = 0 then (
    zth "java/lang/IllegalStateException" V n) else (
    (z_obj V t1 [1]).bind fun _ =>
    zrR t1 V n)
set_option maxHeartbeats 4000000 in
set_option maxRecDepth 100000 in
theorem bB_sourceAt {x : zX} {w : zR} (C : zC x prog_1_method_27_code "BarrierMarks" "sourceAt" 4 7 103 (some (.object "BarrierMarks$Source"))) (M : zM x (zc w) (zs w)) : ∀ (V : zV) (n : Nat) (a0 : Nat) (x1 : Int32), fB_sourceAt V n a0 x1 = some w → zZ x 4 0 0 w V n 0 [(0, va_rf (some a0)), (1, .int x1)] [] := by
  intro V n a0 x1 h
  unfold fB_sourceAt at h
  refine z_aload_n C 0 dB_sourceAt_0 rfl rfl ?_
  refine z_iload_n C 1 dB_sourceAt_1 rfl rfl ?_
  refine z_vPR (ci := 5) C M zRmP [.int x1] cv_B_233 rfl (by decide) (by decide) rfl rfl (Nat.zero_le _) dB_sourceAt_2 (fun b => fB_channelAt V n b x1) h (fun b w1 e1 l D dA hl => mB_channelAt hl e1) (fun t1 V n h => ?_)
  refine z_astore_n (lv' := [(3, va_rf t1), (0, va_rf (some a0)), (1, .int x1)]) (i := 3) C dB_sourceAt_5 rfl (by decide) rfl ?_
  refine z_aload_n C 0 dB_sourceAt_6 rfl rfl ?_
  refine z_inst C nl_B_73 io_1 dB_sourceAt_7 h (fun t2 h => ?_)
  refine z_if_eq C 20 dB_sourceAt_10 (by decide) h (fun h => ?_) (fun h => ?_)
  · obtain rfl := Option.some.inj h
    exact z_throwS C M th_B_242_66 (by decide) (by decide) (Nat.le_refl _) (Nat.le_refl _) dB_sourceAt_20 dB_sourceAt_23 dB_sourceAt_24 dB_sourceAt_26 dB_sourceAt_29 rfl
  · refine z_aload_n C 0 dB_sourceAt_13 rfl rfl ?_
    refine z_chk C nl_B_73 ck_1 dB_sourceAt_14 h (fun _ h => ?_)
    refine z_astore_n (lv' := [(2, va_rf t1), (3, va_rf t1), (0, va_rf (some a0)), (1, .int x1)]) (i := 2) C dB_sourceAt_17 rfl (by decide) rfl ?_
    refine z_aload_n C 0 dB_sourceAt_18 rfl rfl ?_
    exact z_aret C M (Nat.zero_le _) (Nat.zero_le _) dB_sourceAt_19 h
theorem mB_sourceAt {l : Launch} {D : va_G} {dA : Nat → ClassId} {V : zV} {n : Nat} (hl : l.stackTraces = false) {a0 : Nat} {x1 : Int32} {w : zR} (h : fB_sourceAt V n a0 x1 = some w) : z_Met l ⟨"BarrierMarks", "sourceAt", "(I)LBarrierMarks$Source;"⟩ prog_1_method_27_code 4 (some (.object "BarrierMarks$Source")) 7 103 (zc w) (zs w) [.ref a0, .int x1] D dA V n w := by exact z_ofZ hl (by decide) (Nat.le_of_ble_eq_true rfl) (fun x C M => bB_sourceAt C M V n a0 x1 h)
/-! BarrierMarks.send(IJ)I -/
def fB_send (V : zV) (n : Nat) (a0 : Nat) (x1 : Int32) (x2 : Int64) : Option zR :=
    (z_obj V (some a0) [5]).bind fun o => zcR (fB_sourceAt V n o.1 x1) fun t1 V n =>
    (zgI V t1 [1] 12).bind fun t2 =>
    if t2 = 0 then (
    (zgI V t1 [1] 9).bind fun t3 =>
    if t3 < (200 : Int32) then (
    (zpZ V (some a0) [5] 9 (1 : Int32)).bind fun V =>
    (z_obj V t1 [1]).bind fun o => zcV (fS_addRow V n o.1 x2) fun V n =>
    (zgI V t1 [1] 9).bind fun t4 =>
    zrI t4 V n) else (
    zth "java/lang/IllegalStateException" V n)) else (
    zth "java/lang/IllegalStateException" V n)
set_option maxHeartbeats 4000000 in
set_option maxRecDepth 100000 in
theorem bB_send {x : zX} {w : zR} (C : zC x prog_1_method_3_code "BarrierMarks" "send" 5 8 126 (some .int)) (M : zM x (zc w) (zs w)) : ∀ (V : zV) (n : Nat) (a0 : Nat) (x1 : Int32) (x2 : Int64), fB_send V n a0 x1 x2 = some w → zZ x 5 0 0 w V n 0 [(0, va_rf (some a0)), (1, .int x1), (2, .long x2)] [] := by
  intro V n a0 x1 x2 h
  unfold fB_send at h
  refine z_aload_n C 0 dB_send_0 rfl rfl ?_
  refine z_iload_n C 1 dB_send_1 rfl rfl ?_
  refine z_vPR (ci := 5) C M zRmP [.int x1] cv_B_101 rfl (by decide) (by decide) rfl rfl (Nat.zero_le _) dB_send_2 (fun b => fB_sourceAt V n b x1) h (fun b w1 e1 l D dA hl => mB_sourceAt hl e1) (fun t1 V n h => ?_)
  refine z_astore (lv' := [(4, va_rf t1), (0, va_rf (some a0)), (1, .int x1), (2, .long x2)]) C dB_send_5 (by decide) rfl ?_
  refine z_aload C 0 dB_send_7 rfl ?_
  refine z_getI C fl_B_105 dB_send_9 h (fun t2 h => ?_)
  refine z_if_ne C 26 dB_send_12 (by decide) h (fun h => ?_) (fun h => ?_)
  · obtain rfl := Option.some.inj h
    exact z_throwS C M th_B_111_66 (by decide) (by decide) (Nat.le_refl _) (Nat.le_refl _) dB_send_26 dB_send_29 dB_send_30 dB_send_32 dB_send_35 rfl
  · refine z_aload C 0 dB_send_15 rfl ?_
    refine z_getI C fl_B_108 dB_send_17 h (fun t3 h => ?_)
    refine z_sipush (v := 200) C dB_send_20 (by decide) ?_
    refine z_icmp_lt C 36 dB_send_23 (by decide) h (fun h => ?_) (fun h => ?_)
    · refine z_aload_n C 1 dB_send_36 rfl rfl ?_
      refine z_iconst (v := 1) C dB_send_37 (by decide) ?_
      refine z_putZ C pf_B_58 (fun h => absurd h (by decide)) dB_send_38 h (fun V h => ?_)
      refine z_aload C 0 dB_send_41 rfl ?_
      refine z_lload_n C 3 dB_send_43 rfl rfl ?_
      refine z_vPV (ci := 1) C M zRmP [.long x2] cv_B_113 rfl (by decide) (by decide) rfl rfl (Nat.zero_le _) dB_send_44 (fun b => fS_addRow V n b x2) h (fun b w1 e1 l D dA hl => mS_addRow hl e1) (fun V n h => ?_)
      refine z_aload C 0 dB_send_47 rfl ?_
      refine z_getI C fl_B_108 dB_send_49 h (fun t4 h => ?_)
      exact z_iret C M (Nat.zero_le _) (Nat.zero_le _) dB_send_52 h
    · obtain rfl := Option.some.inj h
      exact z_throwS C M th_B_111_66 (by decide) (by decide) (Nat.le_refl _) (Nat.le_refl _) dB_send_26 dB_send_29 dB_send_30 dB_send_32 dB_send_35 rfl
theorem mB_send {l : Launch} {D : va_G} {dA : Nat → ClassId} {V : zV} {n : Nat} (hl : l.stackTraces = false) {a0 : Nat} {x1 : Int32} {x2 : Int64} {w : zR} (h : fB_send V n a0 x1 x2 = some w) : z_Met l ⟨"BarrierMarks", "send", "(IJ)I"⟩ prog_1_method_3_code 5 (some .int) 8 126 (zc w) (zs w) [.ref a0, .int x1, .long x2] D dA V n w := by exact z_ofZ hl (by decide) (Nat.le_of_ble_eq_true rfl) (fun x C M => bB_send C M V n a0 x1 x2 h)
/-! BarrierMarks.finish(I)I -/
def fB_finish (V : zV) (n : Nat) (a0 : Nat) (x1 : Int32) : Option zR :=
    (z_obj V (some a0) [5]).bind fun o => zcR (fB_sourceAt V n o.1 x1) fun t1 V n =>
    (zgI V t1 [1] 12).bind fun t2 =>
    if t2 = 0 then (
    (zpZ V (some a0) [5] 9 (1 : Int32)).bind fun V =>
    (zpZ V t1 [1] 12 (1 : Int32)).bind fun V =>
    (zgI V t1 [1] 9).bind fun t3 =>
    zrI t3 V n) else (
    zth "java/lang/IllegalStateException" V n)
set_option maxHeartbeats 4000000 in
set_option maxRecDepth 100000 in
theorem bB_finish {x : zX} {w : zR} (C : zC x prog_1_method_4_code "BarrierMarks" "finish" 3 8 126 (some .int)) (M : zM x (zc w) (zs w)) : ∀ (V : zV) (n : Nat) (a0 : Nat) (x1 : Int32), fB_finish V n a0 x1 = some w → zZ x 3 0 0 w V n 0 [(0, va_rf (some a0)), (1, .int x1)] [] := by
  intro V n a0 x1 h
  unfold fB_finish at h
  refine z_aload_n C 0 dB_finish_0 rfl rfl ?_
  refine z_iload_n C 1 dB_finish_1 rfl rfl ?_
  refine z_vPR (ci := 5) C M zRmP [.int x1] cv_B_101 rfl (by decide) (by decide) rfl rfl (Nat.zero_le _) dB_finish_2 (fun b => fB_sourceAt V n b x1) h (fun b w1 e1 l D dA hl => mB_sourceAt hl e1) (fun t1 V n h => ?_)
  refine z_astore_n (lv' := [(2, va_rf t1), (0, va_rf (some a0)), (1, .int x1)]) (i := 2) C dB_finish_5 rfl (by decide) rfl ?_
  refine z_aload_n C 0 dB_finish_6 rfl rfl ?_
  refine z_getI C fl_B_105 dB_finish_7 h (fun t2 h => ?_)
  refine z_if_eq C 23 dB_finish_10 (by decide) h (fun h => ?_) (fun h => ?_)
  · refine z_aload_n C 1 dB_finish_23 rfl rfl ?_
    refine z_iconst (v := 1) C dB_finish_24 (by decide) ?_
    refine z_putZ C pf_B_58 (fun h => absurd h (by decide)) dB_finish_25 h (fun V h => ?_)
    refine z_aload_n C 0 dB_finish_28 rfl rfl ?_
    refine z_iconst (v := 1) C dB_finish_29 (by decide) ?_
    refine z_putZ C pf_B_105 (fun h => absurd h (by decide)) dB_finish_30 h (fun V h => ?_)
    refine z_aload_n C 0 dB_finish_33 rfl rfl ?_
    refine z_getI C fl_B_108 dB_finish_34 h (fun t3 h => ?_)
    exact z_iret C M (Nat.zero_le _) (Nat.zero_le _) dB_finish_37 h
  · obtain rfl := Option.some.inj h
    exact z_throwS C M th_B_117_66 (by decide) (by decide) (Nat.le_refl _) (Nat.le_refl _) dB_finish_13 dB_finish_16 dB_finish_17 dB_finish_19 dB_finish_22 rfl
theorem mB_finish {l : Launch} {D : va_G} {dA : Nat → ClassId} {V : zV} {n : Nat} (hl : l.stackTraces = false) {a0 : Nat} {x1 : Int32} {w : zR} (h : fB_finish V n a0 x1 = some w) : z_Met l ⟨"BarrierMarks", "finish", "(I)I"⟩ prog_1_method_4_code 3 (some .int) 8 126 (zc w) (zs w) [.ref a0, .int x1] D dA V n w := by exact z_ofZ hl (by decide) (Nat.le_of_ble_eq_true rfl) (fun x C M => bB_finish C M V n a0 x1 h)
/-! BarrierMarks.keepAndAck(LBarrierMarks$Mark;LBarrierMarks$Task;)V -/
def fB_keepAndAck (V : zV) (n : Nat) (a0 : Nat) (x1 : Option Nat) (x2 : Option Nat) : Option zR :=
    (z_obj V x1 [3]).bind fun o => zcV (fM_keepStateOf V n o.1 x2) fun V n =>
    (zgR V (some a0) [5] 3).bind fun t1 =>
    (zgI V x1 [3] 0).bind fun t2 =>
    (zgI V x2 [4] 0).bind fun t3 =>
    (z_obj V t1 [0]).bind fun o => zcV (fK_add V n o.1 t2 t3) fun V n =>
    zrV V n
set_option maxHeartbeats 4000000 in
set_option maxRecDepth 100000 in
theorem bB_keepAndAck {x : zX} {w : zR} (C : zC x prog_1_method_39_code "BarrierMarks" "keepAndAck" 3 1 23 none) (M : zM x (zc w) (zs w)) : ∀ (V : zV) (n : Nat) (a0 : Nat) (x1 : Option Nat) (x2 : Option Nat), fB_keepAndAck V n a0 x1 x2 = some w → zZ x 3 0 0 w V n 0 [(0, va_rf (some a0)), (1, va_rf x1), (2, va_rf x2)] [] := by
  intro V n a0 x1 x2 h
  unfold fB_keepAndAck at h
  refine z_aload_n C 1 dB_keepAndAck_0 rfl rfl ?_
  refine z_aload_n C 2 dB_keepAndAck_1 rfl rfl ?_
  refine z_vPV (ci := 3) C M zRmP [va_rf x2] cv_B_300 rfl (by decide) (by decide) rfl rfl (Nat.zero_le _) dB_keepAndAck_2 (fun b => fM_keepStateOf V n b x2) h (fun b w1 e1 l D dA hl => mM_keepStateOf hl e1) (fun V n h => ?_)
  refine z_aload_n C 0 dB_keepAndAck_5 rfl rfl ?_
  refine z_getR C fl_B_24 dB_keepAndAck_6 h (fun t1 h => ?_)
  refine z_aload_n C 1 dB_keepAndAck_9 rfl rfl ?_
  refine z_getI C fl_B_294 dB_keepAndAck_10 h (fun t2 h => ?_)
  refine z_aload_n C 2 dB_keepAndAck_13 rfl rfl ?_
  refine z_getI C fl_B_304 dB_keepAndAck_14 h (fun t3 h => ?_)
  refine z_vPV (ci := 0) C M zRmP [.int t2, .int t3] cv_B_177 rfl (by decide) (by decide) rfl rfl (Nat.zero_le _) dB_keepAndAck_17 (fun b => fK_add V n b t2 t3) h (fun b w1 e1 l D dA hl => mK_add hl e1) (fun V n h => ?_)
  exact z_vret C M (Nat.zero_le _) (Nat.zero_le _) dB_keepAndAck_20 h
theorem mB_keepAndAck {l : Launch} {D : va_G} {dA : Nat → ClassId} {V : zV} {n : Nat} (hl : l.stackTraces = false) {a0 : Nat} {x1 : Option Nat} {x2 : Option Nat} {w : zR} (h : fB_keepAndAck V n a0 x1 x2 = some w) : z_Met l ⟨"BarrierMarks", "keepAndAck", "(LBarrierMarks$Mark;LBarrierMarks$Task;)V"⟩ prog_1_method_39_code 3 none 1 23 (zc w) (zs w) [.ref a0, va_rf x1, va_rf x2] D dA V n w := by cases x1 <;> cases x2 <;> exact z_ofZ hl (by decide) (Nat.le_of_ble_eq_true rfl) (fun x C M => bB_keepAndAck C M V n a0 _ _ h)
/-! BarrierMarks.mark()I -/
def fB_mark_150 (K106 : zV → Nat → Nat → Int32 → Option Nat → Int32 → Option zR) (V : zV) (n : Nat) (a0 : Nat) (x1 : Int32) (x2 : Option Nat) (x3 : Int32) : Option zR :=
    K106 V n a0 x1 x2 (x3 + 1)
set_option maxHeartbeats 4000000 in
set_option maxRecDepth 100000 in
theorem bB_mark_150 {x : zX} {w : zR} {K106 : zV → Nat → Nat → Int32 → Option Nat → Int32 → Option zR} (C : zC x prog_1_method_5_code "BarrierMarks" "mark" 4 6 82 (some .int)) (M : zM x 8 63) (hK106 : ∀ (V : zV) (n : Nat) (a0 : Nat) (x1 : Int32) (x2 : Option Nat) (x3 : Int32), K106 V n a0 x1 x2 x3 = some w → zZ x 4 7 57 w V n 106 [(0, va_rf (some a0)), (1, .int x1), (2, va_rf x2), (3, .int x3)] []) : ∀ (V : zV) (n : Nat) (a0 : Nat) (x1 : Int32) (x2 : Option Nat) (x3 : Int32), fB_mark_150 K106 V n a0 x1 x2 x3 = some w → zZ x 4 7 57 w V n 150 [(0, va_rf (some a0)), (1, .int x1), (2, va_rf x2), (3, .int x3)] [] := by
  intro V n a0 x1 x2 x3 h
  unfold fB_mark_150 at h
  refine z_iinc (lv' := [(3, .int (x3 + 1)), (0, va_rf (some a0)), (1, .int x1), (2, va_rf x2)]) C 3 dB_mark_150 rfl rfl (by decide) (by first | rfl | simp [zrfcat]) ?_
  refine z_goto C 106 dB_mark_153 (by decide) ?_
  refine z_sub [1, 2, 3, 0] rfl ?_
  exact hK106 V n a0 x1 x2 (x3 + 1) h
def fB_mark_139 (K106 : zV → Nat → Nat → Int32 → Option Nat → Int32 → Option zR) (V : zV) (n : Nat) (a0 : Nat) (x1 : Int32) (x2 : Option Nat) (x3 : Int32) : Option zR :=
    (zgR V (some a0) [5] 0).bind fun t1 =>
    (zaR V t1 3 x3).bind fun t2 =>
    (z_obj V (some a0) [5]).bind fun o => zcV (fB_keepAndAck V n o.1 x2 t2) fun V n =>
    fB_mark_150 K106 V n a0 x1 x2 x3
set_option maxHeartbeats 4000000 in
set_option maxRecDepth 100000 in
theorem bB_mark_139 {x : zX} {w : zR} {K106 : zV → Nat → Nat → Int32 → Option Nat → Int32 → Option zR} (C : zC x prog_1_method_5_code "BarrierMarks" "mark" 4 6 82 (some .int)) (M : zM x 8 63) (hK106 : ∀ (V : zV) (n : Nat) (a0 : Nat) (x1 : Int32) (x2 : Option Nat) (x3 : Int32), K106 V n a0 x1 x2 x3 = some w → zZ x 4 7 57 w V n 106 [(0, va_rf (some a0)), (1, .int x1), (2, va_rf x2), (3, .int x3)] []) : ∀ (V : zV) (n : Nat) (a0 : Nat) (x1 : Int32) (x2 : Option Nat) (x3 : Int32), fB_mark_139 K106 V n a0 x1 x2 x3 = some w → zZ x 4 7 57 w V n 139 [(0, va_rf (some a0)), (1, .int x1), (2, va_rf x2), (3, .int x3)] [] := by
  intro V n a0 x1 x2 x3 h
  unfold fB_mark_139 at h
  refine z_aload_n C 0 dB_mark_139 rfl rfl ?_
  refine z_aload_n C 2 dB_mark_140 rfl rfl ?_
  refine z_aload_n C 0 dB_mark_141 rfl rfl ?_
  refine z_getR C fl_B_39 dB_mark_142 h (fun t1 h => ?_)
  refine z_iload_n C 3 dB_mark_145 rfl rfl ?_
  refine z_aald C rfl dB_mark_146 h (fun t2 h => ?_)
  refine z_vPV (ci := 5) C M (zRmS (by decide) (by decide)) [va_rf x2, va_rf t2] cv_B_134 rfl (by decide) (by decide) rfl rfl (Nat.zero_le _) dB_mark_147 (fun b => fB_keepAndAck V n b x2 t2) h (fun b w1 e1 l D dA hl => mB_keepAndAck hl e1) (fun V n h => ?_)
  exact bB_mark_150 C M hK106 V n a0 x1 x2 x3 h
def fB_mark_106 : Nat → zV → Nat → Nat → Int32 → Option Nat → Int32 → Option zR
  | 0 => fun _ _ _ _ _ _ => none
  | f9 + 1 => fun V n a0 x1 x2 x3 =>
    (zgR V (some a0) [5] 0).bind fun t1 =>
    (zalen V t1 3).bind fun t2 =>
    if t2 ≤ x3 then (
    zrI x1 V n) else (
    (zgR V (some a0) [5] 0).bind fun t3 =>
    (zaR V t3 3 x3).bind fun t4 =>
    (zgI V t4 [4] 8).bind fun t5 =>
    if t5 = 0 then (
    (zgR V (some a0) [5] 0).bind fun t6 =>
    (zaR V t6 3 x3).bind fun t7 =>
    (zgI V t7 [4] 3).bind fun t8 =>
    if t8 = 0 then (
    fB_mark_139 (fB_mark_106 f9) V n a0 x1 x2 x3) else (
    fB_mark_150 (fB_mark_106 f9) V n a0 x1 x2 x3)) else (
    fB_mark_139 (fB_mark_106 f9) V n a0 x1 x2 x3))
set_option maxHeartbeats 4000000 in
set_option maxRecDepth 100000 in
theorem bB_mark_106 {x : zX} {w : zR} (C : zC x prog_1_method_5_code "BarrierMarks" "mark" 4 6 82 (some .int)) (M : zM x 8 63) : ∀ (f9 : Nat) (V : zV) (n : Nat) (a0 : Nat) (x1 : Int32) (x2 : Option Nat) (x3 : Int32), fB_mark_106 f9 V n a0 x1 x2 x3 = some w → zZ x 4 7 57 w V n 106 [(0, va_rf (some a0)), (1, .int x1), (2, va_rf x2), (3, .int x3)] [] := by
  intro f9
  induction f9 with
  | zero =>
    intro V n a0 x1 x2 x3 h
    cases h
  | succ f9 ih =>
    intro V n a0 x1 x2 x3 h
    unfold fB_mark_106 at h
    refine z_iload_n C 3 dB_mark_106 rfl rfl ?_
    refine z_aload_n C 0 dB_mark_107 rfl rfl ?_
    refine z_getR C fl_B_39 dB_mark_108 h (fun t1 h => ?_)
    refine z_alen C rfl dB_mark_111 h (fun t2 h => ?_)
    refine z_icmp_ge C 156 dB_mark_112 (by decide) h (fun h => ?_) (fun h => ?_)
    · refine z_iload_n C 1 dB_mark_156 rfl rfl ?_
      exact z_iret C M (by decide) (by decide) dB_mark_157 h
    · refine z_aload_n C 0 dB_mark_115 rfl rfl ?_
      refine z_getR C fl_B_39 dB_mark_116 h (fun t3 h => ?_)
      refine z_iload_n C 3 dB_mark_119 rfl rfl ?_
      refine z_aald C rfl dB_mark_120 h (fun t4 h => ?_)
      refine z_getI C fl_B_131 dB_mark_121 h (fun t5 h => ?_)
      refine z_if_ne C 139 dB_mark_124 (by decide) h (fun h => ?_) (fun h => ?_)
      · exact bB_mark_139 C M ih V n a0 x1 x2 x3 h
      · refine z_aload_n C 0 dB_mark_127 rfl rfl ?_
        refine z_getR C fl_B_39 dB_mark_128 h (fun t6 h => ?_)
        refine z_iload_n C 3 dB_mark_131 rfl rfl ?_
        refine z_aald C rfl dB_mark_132 h (fun t7 h => ?_)
        refine z_getI C fl_B_80 dB_mark_133 h (fun t8 h => ?_)
        refine z_if_ne C 150 dB_mark_136 (by decide) h (fun h => ?_) (fun h => ?_)
        · exact bB_mark_150 C M ih V n a0 x1 x2 x3 h
        · exact bB_mark_139 C M ih V n a0 x1 x2 x3 h
def fB_mark_80 : Nat → zV → Nat → Nat → Int32 → Option Nat → Int32 → Option zR
  | 0 => fun _ _ _ _ _ _ => none
  | f9 + 1 => fun V n a0 x1 x2 x3 =>
    (zgI V (some a0) [5] 6).bind fun t1 =>
    if t1 ≤ x3 then (
    fB_mark_106 zF V n a0 x1 x2 (0 : Int32)) else (
    (zgR V (some a0) [5] 1).bind fun t2 =>
    (zaR V t2 4 x3).bind fun t3 =>
    (z_obj V t3 [1, 2]).bind fun o => zdV (if o.2.1 = 1 then fS_beginMark V n o.1 x1 else fL_beginMark V n o.1 x1) fun V n =>
    (fB_mark_80 f9) V n a0 x1 x2 (x3 + 1))
set_option maxHeartbeats 4000000 in
set_option maxRecDepth 100000 in
theorem bB_mark_80 {x : zX} {w : zR} (C : zC x prog_1_method_5_code "BarrierMarks" "mark" 4 6 82 (some .int)) (M : zM x 8 63) : ∀ (f9 : Nat) (V : zV) (n : Nat) (a0 : Nat) (x1 : Int32) (x2 : Option Nat) (x3 : Int32), fB_mark_80 f9 V n a0 x1 x2 x3 = some w → zZ x 4 7 57 w V n 80 [(0, va_rf (some a0)), (1, .int x1), (2, va_rf x2), (3, .int x3)] [] := by
  intro f9
  induction f9 with
  | zero =>
    intro V n a0 x1 x2 x3 h
    cases h
  | succ f9 ih =>
    intro V n a0 x1 x2 x3 h
    unfold fB_mark_80 at h
    refine z_iload_n C 3 dB_mark_80 rfl rfl ?_
    refine z_aload_n C 0 dB_mark_81 rfl rfl ?_
    refine z_getI C fl_B_62 dB_mark_82 h (fun t1 h => ?_)
    refine z_icmp_ge C 104 dB_mark_85 (by decide) h (fun h => ?_) (fun h => ?_)
    · refine z_iconst (v := 0) C dB_mark_104 (by decide) ?_
      refine z_istore_n (lv' := [(3, .int (0 : Int32)), (0, va_rf (some a0)), (1, .int x1), (2, va_rf x2)]) (i := 3) C dB_mark_105 rfl (by decide) (by first | rfl | simp [zrfcat]) ?_
      refine z_sub [1, 2, 3, 0] rfl ?_
      exact bB_mark_106 C M zF V n a0 x1 x2 (0 : Int32) h
    · refine z_aload_n C 0 dB_mark_88 rfl rfl ?_
      refine z_getR C fl_B_11 dB_mark_89 h (fun t2 h => ?_)
      refine z_iload_n C 3 dB_mark_92 rfl rfl ?_
      refine z_aald C rfl dB_mark_93 h (fun t3 h => ?_)
      refine z_iload_n C 1 dB_mark_94 rfl rfl ?_
      refine z_aPV C M ⟨by decide, by decide⟩ [.int x1] ca_B_128_S ca_B_128_L rfl rfl (by decide) (by decide) (by decide) (by decide) rfl rfl (Nat.zero_le _) dB_mark_95 (fun b => fS_beginMark V n b x1) (fun b => fL_beginMark V n b x1) h (fun b w1 e1 l D dA hl => mS_beginMark hl e1) (fun b w1 e1 l D dA hl => mL_beginMark hl e1) (fun V n h => ?_)
      refine z_iinc (lv' := [(3, .int (x3 + 1)), (0, va_rf (some a0)), (1, .int x1), (2, va_rf x2)]) C 3 dB_mark_98 rfl rfl (by decide) (by first | rfl | simp [zrfcat]) ?_
      refine z_goto C 80 dB_mark_101 (by decide) ?_
      refine z_sub [1, 2, 3, 0] rfl ?_
      exact ih V n a0 x1 x2 (x3 + 1) h
def fB_mark (V : zV) (n : Nat) (a0 : Nat) : Option zR :=
    (zgI V (some a0) [5] 8).bind fun t1 =>
    if (3 : Int32) ≤ t1 then (
    zth "java/lang/IllegalStateException" V n) else (
    (zgI V (some a0) [5] 7).bind fun t2 =>
    if t2 < (40 : Int32) then (
    (zpZ V (some a0) [5] 9 (1 : Int32)).bind fun V =>
    (zgI V (some a0) [5] 7).bind fun t3 =>
    znw V n (.inr (3, zfs3)) fun t4 V n =>
    (zgR V (some a0) [5] 0).bind fun t5 =>
    (zalen V t5 3).bind fun t6 =>
    zdV (fM_init V n t4 t3 t6) fun V n =>
    (zgR V (some a0) [5] 2).bind fun t7 =>
    (zsR V t7 6 [3] t3 (some t4)).bind fun V =>
    (zgI V (some a0) [5] 7).bind fun t8 =>
    (zpI V (some a0) [5] 7 ((t8 + (1 : Int32)))).bind fun V =>
    (zgI V (some a0) [5] 8).bind fun t9 =>
    (zpI V (some a0) [5] 8 ((t9 + (1 : Int32)))).bind fun V =>
    fB_mark_80 zF V n a0 t3 (some t4) (0 : Int32)) else (
    zth "java/lang/IllegalStateException" V n))
set_option maxHeartbeats 4000000 in
set_option maxRecDepth 100000 in
theorem bB_mark {x : zX} {w : zR} (C : zC x prog_1_method_5_code "BarrierMarks" "mark" 4 6 82 (some .int)) (M : zM x 8 63) : ∀ (V : zV) (n : Nat) (a0 : Nat), fB_mark V n a0 = some w → zZ x 4 0 0 w V n 0 [(0, va_rf (some a0))] [] := by
  intro V n a0 h
  unfold fB_mark at h
  refine z_aload_n C 0 dB_mark_0 rfl rfl ?_
  refine z_getI C fl_B_119 dB_mark_1 h (fun t1 h => ?_)
  refine z_iconst (v := 3) C dB_mark_4 (by decide) ?_
  refine z_icmp_ge C 17 dB_mark_5 (by decide) h (fun h => ?_) (fun h => ?_)
  · exact z_throwS C M th_B_125_66 (by decide) (by decide) (by decide) (by decide) dB_mark_17 dB_mark_20 dB_mark_21 dB_mark_23 dB_mark_26 h
  · refine z_aload_n C 0 dB_mark_8 rfl rfl ?_
    refine z_getI C fl_B_122 dB_mark_9 h (fun t2 h => ?_)
    refine z_bipush (v := 40) C dB_mark_12 (by decide) ?_
    refine z_icmp_lt C 27 dB_mark_14 (by decide) h (fun h => ?_) (fun h => ?_)
    · refine z_aload_n C 0 dB_mark_27 rfl rfl ?_
      refine z_iconst (v := 1) C dB_mark_28 (by decide) ?_
      refine z_putZ C pf_B_58 (fun h => absurd h (by decide)) dB_mark_29 h (fun V h => ?_)
      refine z_aload_n C 0 dB_mark_32 rfl rfl ?_
      refine z_getI C fl_B_122 dB_mark_33 h (fun t3 h => ?_)
      refine z_istore_n (lv' := [(1, .int t3), (0, va_rf (some a0))]) (i := 1) C dB_mark_36 rfl (by decide) rfl ?_
      refine z_newK C M (ci := 3) rfl zi3 zt3 zd3 nl_B_15 ni_3 nz_3 (by decide) (by decide) dB_mark_37 h (fun t4 V n h _ _ _ => ?_)
      refine z_dup C dB_mark_40 (zrfcat _) ?_
      refine z_iload_n C 0 dB_mark_41 rfl rfl ?_
      refine z_aload_n C 1 dB_mark_42 rfl rfl ?_
      refine z_getR C fl_B_39 dB_mark_43 h (fun t5 h => ?_)
      refine z_alen C rfl dB_mark_46 h (fun t6 h => ?_)
      refine z_iS (mc1 := 6) (ms1 := 48) (b := t4) C M (by decide) (by decide) [.int t3, .int t6] cn_B_127 (by decide) (by decide) rfl rfl (by first | decide | (simp [zrfcat, zicat, zlcat]; done)) dB_mark_47 h (fun w1 e1 l D dA hl => mM_init hl e1) (fun V n h => ?_)
      refine z_astore_n (lv' := [(2, va_rf (some t4)), (1, .int t3), (0, va_rf (some a0))]) (i := 2) C dB_mark_50 rfl (by decide) rfl ?_
      refine z_aload_n C 2 dB_mark_51 rfl rfl ?_
      refine z_getR C fl_B_17 dB_mark_52 h (fun t7 h => ?_)
      refine z_iload_n C 1 dB_mark_55 rfl rfl ?_
      refine z_aload_n C 0 dB_mark_56 rfl rfl ?_
      refine z_aast C rfl ae_6 dB_mark_57 h (fun V h => ?_)
      refine z_aload_n C 2 dB_mark_58 rfl rfl ?_
      refine z_dup C dB_mark_59 (zrfcat _) ?_
      refine z_getI C fl_B_122 dB_mark_60 h (fun t8 h => ?_)
      refine z_iconst (v := 1) C dB_mark_63 (by decide) ?_
      refine z_iadd C dB_mark_64 ?_
      refine z_putI C pf_B_122 (fun h => absurd h (by decide)) dB_mark_65 h (fun V h => ?_)
      refine z_aload_n C 2 dB_mark_68 rfl rfl ?_
      refine z_dup C dB_mark_69 (zrfcat _) ?_
      refine z_getI C fl_B_119 dB_mark_70 h (fun t9 h => ?_)
      refine z_iconst (v := 1) C dB_mark_73 (by decide) ?_
      refine z_iadd C dB_mark_74 ?_
      refine z_putI C pf_B_119 (fun h => absurd h (by decide)) dB_mark_75 h (fun V h => ?_)
      refine z_iconst (v := 0) C dB_mark_78 (by decide) ?_
      refine z_istore_n (lv' := [(3, .int (0 : Int32)), (2, va_rf (some t4)), (1, .int t3), (0, va_rf (some a0))]) (i := 3) C dB_mark_79 rfl (by decide) rfl ?_
      refine z_sub [3, 2, 1, 0] rfl ?_
      exact bB_mark_80 C M zF V n a0 t3 (some t4) (0 : Int32) h
    · exact z_throwS C M th_B_125_66 (by decide) (by decide) (by decide) (by decide) dB_mark_17 dB_mark_20 dB_mark_21 dB_mark_23 dB_mark_26 h
theorem mB_mark {l : Launch} {D : va_G} {dA : Nat → ClassId} {V : zV} {n : Nat} (hl : l.stackTraces = false) {a0 : Nat} {w : zR} (h : fB_mark V n a0 = some w) : z_Met l ⟨"BarrierMarks", "mark", "()I"⟩ prog_1_method_5_code 4 (some .int) 6 82 8 63 [.ref a0] D dA V n w := by exact z_ofZ hl (by decide) (Nat.le_of_ble_eq_true rfl) (fun x C M => bB_mark C M V n a0 h)
/-! BarrierMarks.markAt(I)LBarrierMarks$Mark; -/
def fB_markAt (V : zV) (n : Nat) (a0 : Nat) (x1 : Int32) : Option zR :=
    if x1 < 0 then (
    zth "java/lang/IndexOutOfBoundsException" V n) else (
    (zgI V (some a0) [5] 7).bind fun t1 =>
    if x1 < t1 then (
    (zgR V (some a0) [5] 2).bind fun t2 =>
    (zaR V t2 6 x1).bind fun t3 =>
    zrR t3 V n) else (
    zth "java/lang/IndexOutOfBoundsException" V n))
set_option maxHeartbeats 4000000 in
set_option maxRecDepth 100000 in
theorem bB_markAt {x : zX} {w : zR} (C : zC x prog_1_method_29_code "BarrierMarks" "markAt" 2 6 82 (some (.object "BarrierMarks$Mark"))) (M : zM x (zc w) (zs w)) : ∀ (V : zV) (n : Nat) (a0 : Nat) (x1 : Int32), fB_markAt V n a0 x1 = some w → zZ x 2 0 0 w V n 0 [(0, va_rf (some a0)), (1, .int x1)] [] := by
  intro V n a0 x1 h
  unfold fB_markAt at h
  refine z_iload_n C 1 dB_markAt_0 rfl rfl ?_
  refine z_if_lt C 12 dB_markAt_1 (by decide) h (fun h => ?_) (fun h => ?_)
  · obtain rfl := Option.some.inj h
    exact z_throwSW C M th_B_267_240 (by decide) (by decide) (Nat.le_refl _) (Nat.le_refl _) dB_markAt_12 dB_markAt_15 dB_markAt_16 dB_markAt_19 dB_markAt_22 rfl
  · refine z_iload_n C 1 dB_markAt_4 rfl rfl ?_
    refine z_aload_n C 0 dB_markAt_5 rfl rfl ?_
    refine z_getI C fl_B_122 dB_markAt_6 h (fun t1 h => ?_)
    refine z_icmp_lt C 23 dB_markAt_9 (by decide) h (fun h => ?_) (fun h => ?_)
    · refine z_aload_n C 0 dB_markAt_23 rfl rfl ?_
      refine z_getR C fl_B_17 dB_markAt_24 h (fun t2 h => ?_)
      refine z_iload_n C 1 dB_markAt_27 rfl rfl ?_
      refine z_aald C rfl dB_markAt_28 h (fun t3 h => ?_)
      exact z_aret C M (Nat.zero_le _) (Nat.zero_le _) dB_markAt_29 h
    · obtain rfl := Option.some.inj h
      exact z_throwSW C M th_B_267_240 (by decide) (by decide) (Nat.le_refl _) (Nat.le_refl _) dB_markAt_12 dB_markAt_15 dB_markAt_16 dB_markAt_19 dB_markAt_22 rfl
theorem mB_markAt {l : Launch} {D : va_G} {dA : Nat → ClassId} {V : zV} {n : Nat} (hl : l.stackTraces = false) {a0 : Nat} {x1 : Int32} {w : zR} (h : fB_markAt V n a0 x1 = some w) : z_Met l ⟨"BarrierMarks", "markAt", "(I)LBarrierMarks$Mark;"⟩ prog_1_method_29_code 2 (some (.object "BarrierMarks$Mark")) 6 82 (zc w) (zs w) [.ref a0, .int x1] D dA V n w := by exact z_ofZ hl (by decide) (Nat.le_of_ble_eq_true rfl) (fun x C M => bB_markAt C M V n a0 x1 h)
/-! BarrierMarks.stopMark(LBarrierMarks$Mark;I)V -/
def fB_stopMark_60 (K17 : zV → Nat → Nat → Option Nat → Int32 → Option zR) (V : zV) (n : Nat) (a0 : Nat) (x1 : Option Nat) (x3 : Int32) : Option zR :=
    K17 V n a0 x1 (x3 + 1)
set_option maxHeartbeats 4000000 in
set_option maxRecDepth 100000 in
theorem bB_stopMark_60 {x : zX} {w : zR} {K17 : zV → Nat → Nat → Option Nat → Int32 → Option zR} (C : zC x prog_1_method_38_code "BarrierMarks" "stopMark" 5 1 23 none) (M : zM x (zc w) (zs w)) (hK17 : ∀ (V : zV) (n : Nat) (a0 : Nat) (x1 : Option Nat) (x3 : Int32), K17 V n a0 x1 x3 = some w → zZ x 5 0 0 w V n 17 [(0, va_rf (some a0)), (1, va_rf x1), (3, .int x3)] []) : ∀ (V : zV) (n : Nat) (a0 : Nat) (x1 : Option Nat) (x3 : Int32), fB_stopMark_60 K17 V n a0 x1 x3 = some w → zZ x 5 0 0 w V n 60 [(0, va_rf (some a0)), (1, va_rf x1), (3, .int x3)] [] := by
  intro V n a0 x1 x3 h
  unfold fB_stopMark_60 at h
  refine z_iinc (lv' := [(3, .int (x3 + 1)), (0, va_rf (some a0)), (1, va_rf x1)]) C 2 dB_stopMark_60 rfl rfl (by decide) rfl ?_
  refine z_goto C 17 dB_stopMark_63 (by decide) ?_
  refine z_sub [1, 2, 0] rfl ?_
  exact hK17 V n a0 x1 (x3 + 1) h
def fB_stopMark_17 : Nat → zV → Nat → Nat → Option Nat → Int32 → Option zR
  | 0 => fun _ _ _ _ _ => none
  | f9 + 1 => fun V n a0 x1 x3 =>
    (zgI V (some a0) [5] 6).bind fun t1 =>
    if t1 ≤ x3 then (
    zrV V n) else (
    (zgR V (some a0) [5] 1).bind fun t2 =>
    (zaR V t2 4 x3).bind fun t3 =>
    (zgI V x1 [3] 0).bind fun t4 =>
    (z_obj V t3 [1, 2]).bind fun o => zdV (if o.2.1 = 1 then fS_dropBarrier V n o.1 t4 else fL_dropBarrier V n o.1 t4) fun V n =>
    (zgI V t3 [1, 2] 2).bind fun t5 =>
    (zgI V x1 [3] 0).bind fun t6 =>
    if t5 = t6 then (
    (zpI V t3 [1, 2] 2 (-1 : Int32)).bind fun V =>
    fB_stopMark_60 (fB_stopMark_17 f9) V n a0 x1 x3) else (
    fB_stopMark_60 (fB_stopMark_17 f9) V n a0 x1 x3))
set_option maxHeartbeats 4000000 in
set_option maxRecDepth 100000 in
theorem bB_stopMark_17 {x : zX} {w : zR} (C : zC x prog_1_method_38_code "BarrierMarks" "stopMark" 5 1 23 none) (M : zM x (zc w) (zs w)) : ∀ (f9 : Nat) (V : zV) (n : Nat) (a0 : Nat) (x1 : Option Nat) (x3 : Int32), fB_stopMark_17 f9 V n a0 x1 x3 = some w → zZ x 5 0 0 w V n 17 [(0, va_rf (some a0)), (1, va_rf x1), (3, .int x3)] [] := by
  intro f9
  induction f9 with
  | zero =>
    intro V n a0 x1 x3 h
    cases h
  | succ f9 ih =>
    intro V n a0 x1 x3 h
    unfold fB_stopMark_17 at h
    refine z_iload_n C 2 dB_stopMark_17 rfl rfl ?_
    refine z_aload_n C 0 dB_stopMark_18 rfl rfl ?_
    refine z_getI C fl_B_62 dB_stopMark_19 h (fun t1 h => ?_)
    refine z_icmp_ge C 66 dB_stopMark_22 (by decide) h (fun h => ?_) (fun h => ?_)
    · exact z_vret C M (Nat.zero_le _) (Nat.zero_le _) dB_stopMark_66 h
    · refine z_aload_n C 0 dB_stopMark_25 rfl rfl ?_
      refine z_getR C fl_B_11 dB_stopMark_26 h (fun t2 h => ?_)
      refine z_iload_n C 2 dB_stopMark_29 rfl rfl ?_
      refine z_aald C rfl dB_stopMark_30 h (fun t3 h => ?_)
      refine z_astore (lv' := [(4, va_rf t3), (0, va_rf (some a0)), (1, va_rf x1), (3, .int x3)]) C dB_stopMark_31 (by decide) rfl ?_
      refine z_aload C 0 dB_stopMark_33 rfl ?_
      refine z_aload_n C 2 dB_stopMark_35 rfl rfl ?_
      refine z_getI C fl_B_294 dB_stopMark_36 h (fun t4 h => ?_)
      refine z_aPV C M ⟨Nat.zero_le _, Nat.zero_le _⟩ [.int t4] ca_B_297_S ca_B_297_L rfl rfl (by decide) (by decide) (by decide) (by decide) rfl rfl (Nat.zero_le _) dB_stopMark_39 (fun b => fS_dropBarrier V n b t4) (fun b => fL_dropBarrier V n b t4) h (fun b w1 e1 l D dA hl => mS_dropBarrier hl e1) (fun b w1 e1 l D dA hl => mL_dropBarrier hl e1) (fun V n h => ?_)
      refine z_aload C 0 dB_stopMark_42 rfl ?_
      refine z_getI C fl_B_195 dB_stopMark_44 h (fun t5 h => ?_)
      refine z_aload_n C 2 dB_stopMark_47 rfl rfl ?_
      refine z_getI C fl_B_294 dB_stopMark_48 h (fun t6 h => ?_)
      refine z_icmp_ne C 60 dB_stopMark_51 (by decide) h (fun h => ?_) (fun h => ?_)
      · refine z_sub [1, 2, 3] rfl ?_
        exact bB_stopMark_60 C M ih V n a0 x1 x3 h
      · refine z_aload C 0 dB_stopMark_54 rfl ?_
        refine z_iconst (v := (-1)) C dB_stopMark_56 (by decide) ?_
        refine z_putI C pf_B_195 (fun h => absurd h (by decide)) dB_stopMark_57 h (fun V h => ?_)
        refine z_sub [1, 2, 3] rfl ?_
        exact bB_stopMark_60 C M ih V n a0 x1 x3 h
def fB_stopMark (V : zV) (n : Nat) (a0 : Nat) (x1 : Option Nat) (x2 : Int32) : Option zR :=
    (zpI V x1 [3] 8 x2).bind fun V =>
    (zgI V (some a0) [5] 8).bind fun t1 =>
    (zpI V (some a0) [5] 8 ((t1 - (1 : Int32)))).bind fun V =>
    fB_stopMark_17 zF V n a0 x1 (0 : Int32)
set_option maxHeartbeats 4000000 in
set_option maxRecDepth 100000 in
theorem bB_stopMark {x : zX} {w : zR} (C : zC x prog_1_method_38_code "BarrierMarks" "stopMark" 5 1 23 none) (M : zM x (zc w) (zs w)) : ∀ (V : zV) (n : Nat) (a0 : Nat) (x1 : Option Nat) (x2 : Int32), fB_stopMark V n a0 x1 x2 = some w → zZ x 5 0 0 w V n 0 [(0, va_rf (some a0)), (1, va_rf x1), (2, .int x2)] [] := by
  intro V n a0 x1 x2 h
  unfold fB_stopMark at h
  refine z_aload_n C 1 dB_stopMark_0 rfl rfl ?_
  refine z_iload_n C 2 dB_stopMark_1 rfl rfl ?_
  refine z_putI C pf_B_183 (fun h => absurd h (by decide)) dB_stopMark_2 h (fun V h => ?_)
  refine z_aload_n C 0 dB_stopMark_5 rfl rfl ?_
  refine z_dup C dB_stopMark_6 (zrfcat _) ?_
  refine z_getI C fl_B_119 dB_stopMark_7 h (fun t1 h => ?_)
  refine z_iconst (v := 1) C dB_stopMark_10 (by decide) ?_
  refine z_isub C dB_stopMark_11 ?_
  refine z_putI C pf_B_119 (fun h => absurd h (by decide)) dB_stopMark_12 h (fun V h => ?_)
  refine z_iconst (v := 0) C dB_stopMark_15 (by decide) ?_
  refine z_istore_n (lv' := [(3, .int (0 : Int32)), (0, va_rf (some a0)), (1, va_rf x1), (2, .int x2)]) (i := 3) C dB_stopMark_16 rfl (by decide) rfl ?_
  refine z_sub [1, 2, 0] rfl ?_
  exact bB_stopMark_17 C M zF V n a0 x1 (0 : Int32) h
theorem mB_stopMark {l : Launch} {D : va_G} {dA : Nat → ClassId} {V : zV} {n : Nat} (hl : l.stackTraces = false) {a0 : Nat} {x1 : Option Nat} {x2 : Int32} {w : zR} (h : fB_stopMark V n a0 x1 x2 = some w) : z_Met l ⟨"BarrierMarks", "stopMark", "(LBarrierMarks$Mark;I)V"⟩ prog_1_method_38_code 5 none 1 23 (zc w) (zs w) [.ref a0, va_rf x1, .int x2] D dA V n w := by cases x1 <;> exact z_ofZ hl (by decide) (Nat.le_of_ble_eq_true rfl) (fun x C M => bB_stopMark C M V n a0 _ x2 h)
/-! BarrierMarks.completeMark(LBarrierMarks$Mark;)V -/
def fB_completeMark_39 (K8 : zV → Nat → Nat → Option Nat → Int32 → Option zR) (V : zV) (n : Nat) (a0 : Nat) (x1 : Option Nat) (x2 : Int32) : Option zR :=
    K8 V n a0 x1 (x2 + 1)
set_option maxHeartbeats 4000000 in
set_option maxRecDepth 100000 in
theorem bB_completeMark_39 {x : zX} {w : zR} {K8 : zV → Nat → Nat → Option Nat → Int32 → Option zR} (C : zC x prog_1_method_37_code "BarrierMarks" "completeMark" 3 2 47 none) (M : zM x (zc w) (zs w)) (hK8 : ∀ (V : zV) (n : Nat) (a0 : Nat) (x1 : Option Nat) (x2 : Int32), K8 V n a0 x1 x2 = some w → zZ x 3 0 0 w V n 8 [(0, va_rf (some a0)), (1, va_rf x1), (2, .int x2)] []) : ∀ (V : zV) (n : Nat) (a0 : Nat) (x1 : Option Nat) (x2 : Int32), fB_completeMark_39 K8 V n a0 x1 x2 = some w → zZ x 3 0 0 w V n 39 [(0, va_rf (some a0)), (1, va_rf x1), (2, .int x2)] [] := by
  intro V n a0 x1 x2 h
  unfold fB_completeMark_39 at h
  refine z_iinc (lv' := [(2, .int (x2 + 1)), (0, va_rf (some a0)), (1, va_rf x1)]) C 2 dB_completeMark_39 rfl rfl (by decide) (by first | rfl | simp [zrfcat]) ?_
  refine z_goto C 8 dB_completeMark_42 (by decide) ?_
  refine z_sub [1, 2, 0] rfl ?_
  exact hK8 V n a0 x1 (x2 + 1) h
def fB_completeMark_8 : Nat → zV → Nat → Nat → Option Nat → Int32 → Option zR
  | 0 => fun _ _ _ _ _ => none
  | f9 + 1 => fun V n a0 x1 x2 =>
    (zgI V x1 [3] 0).bind fun t1 =>
    if t1 ≤ x2 then (
    zrV V n) else (
    (zgR V (some a0) [5] 2).bind fun t2 =>
    (zaR V t2 6 x2).bind fun t3 =>
    (zgI V t3 [3] 8).bind fun t4 =>
    if t4 = 0 then (
    (zgR V (some a0) [5] 2).bind fun t5 =>
    (zaR V t5 6 x2).bind fun t6 =>
    (z_obj V (some a0) [5]).bind fun o => zcV (fB_stopMark V n o.1 t6 (2 : Int32)) fun V n =>
    fB_completeMark_39 (fB_completeMark_8 f9) V n a0 x1 x2) else (
    fB_completeMark_39 (fB_completeMark_8 f9) V n a0 x1 x2))
set_option maxHeartbeats 4000000 in
set_option maxRecDepth 100000 in
theorem bB_completeMark_8 {x : zX} {w : zR} (C : zC x prog_1_method_37_code "BarrierMarks" "completeMark" 3 2 47 none) (M : zM x (zc w) (zs w)) : ∀ (f9 : Nat) (V : zV) (n : Nat) (a0 : Nat) (x1 : Option Nat) (x2 : Int32), fB_completeMark_8 f9 V n a0 x1 x2 = some w → zZ x 3 0 0 w V n 8 [(0, va_rf (some a0)), (1, va_rf x1), (2, .int x2)] [] := by
  intro f9
  induction f9 with
  | zero =>
    intro V n a0 x1 x2 h
    cases h
  | succ f9 ih =>
    intro V n a0 x1 x2 h
    unfold fB_completeMark_8 at h
    refine z_iload_n C 2 dB_completeMark_8 rfl rfl ?_
    refine z_aload_n C 1 dB_completeMark_9 rfl rfl ?_
    refine z_getI C fl_B_294 dB_completeMark_10 h (fun t1 h => ?_)
    refine z_icmp_ge C 45 dB_completeMark_13 (by decide) h (fun h => ?_) (fun h => ?_)
    · exact z_vret C M (Nat.zero_le _) (Nat.zero_le _) dB_completeMark_45 h
    · refine z_aload_n C 0 dB_completeMark_16 rfl rfl ?_
      refine z_getR C fl_B_17 dB_completeMark_17 h (fun t2 h => ?_)
      refine z_iload_n C 2 dB_completeMark_20 rfl rfl ?_
      refine z_aald C rfl dB_completeMark_21 h (fun t3 h => ?_)
      refine z_getI C fl_B_183 dB_completeMark_22 h (fun t4 h => ?_)
      refine z_if_ne C 39 dB_completeMark_25 (by decide) h (fun h => ?_) (fun h => ?_)
      · exact bB_completeMark_39 C M ih V n a0 x1 x2 h
      · refine z_aload_n C 0 dB_completeMark_28 rfl rfl ?_
        refine z_aload_n C 0 dB_completeMark_29 rfl rfl ?_
        refine z_getR C fl_B_17 dB_completeMark_30 h (fun t5 h => ?_)
        refine z_iload_n C 2 dB_completeMark_33 rfl rfl ?_
        refine z_aald C rfl dB_completeMark_34 h (fun t6 h => ?_)
        refine z_iconst (v := 2) C dB_completeMark_35 (by decide) ?_
        refine z_vPV (ci := 5) C M zRmP [va_rf t6, .int (2 : Int32)] cv_B_156 rfl (by decide) (by decide) rfl rfl (Nat.zero_le _) dB_completeMark_36 (fun b => fB_stopMark V n b t6 (2 : Int32)) h (fun b w1 e1 l D dA hl => mB_stopMark hl e1) (fun V n h => ?_)
        exact bB_completeMark_39 C M ih V n a0 x1 x2 h
def fB_completeMark (V : zV) (n : Nat) (a0 : Nat) (x1 : Option Nat) : Option zR :=
    (z_obj V (some a0) [5]).bind fun o => zcV (fB_stopMark V n o.1 x1 (1 : Int32)) fun V n =>
    fB_completeMark_8 zF V n a0 x1 (0 : Int32)
set_option maxHeartbeats 4000000 in
set_option maxRecDepth 100000 in
theorem bB_completeMark {x : zX} {w : zR} (C : zC x prog_1_method_37_code "BarrierMarks" "completeMark" 3 2 47 none) (M : zM x (zc w) (zs w)) : ∀ (V : zV) (n : Nat) (a0 : Nat) (x1 : Option Nat), fB_completeMark V n a0 x1 = some w → zZ x 3 0 0 w V n 0 [(0, va_rf (some a0)), (1, va_rf x1)] [] := by
  intro V n a0 x1 h
  unfold fB_completeMark at h
  refine z_aload_n C 0 dB_completeMark_0 rfl rfl ?_
  refine z_aload_n C 1 dB_completeMark_1 rfl rfl ?_
  refine z_iconst (v := 1) C dB_completeMark_2 (by decide) ?_
  refine z_vPV (ci := 5) C M zRmP [va_rf x1, .int (1 : Int32)] cv_B_156 rfl (by decide) (by decide) rfl rfl (Nat.zero_le _) dB_completeMark_3 (fun b => fB_stopMark V n b x1 (1 : Int32)) h (fun b w1 e1 l D dA hl => mB_stopMark hl e1) (fun V n h => ?_)
  refine z_iconst (v := 0) C dB_completeMark_6 (by decide) ?_
  refine z_istore_n (lv' := [(2, .int (0 : Int32)), (0, va_rf (some a0)), (1, va_rf x1)]) (i := 2) C dB_completeMark_7 rfl (by decide) (by first | rfl | simp [zrfcat]) ?_
  refine z_sub [1, 2, 0] rfl ?_
  exact bB_completeMark_8 C M zF V n a0 x1 (0 : Int32) h
theorem mB_completeMark {l : Launch} {D : va_G} {dA : Nat → ClassId} {V : zV} {n : Nat} (hl : l.stackTraces = false) {a0 : Nat} {x1 : Option Nat} {w : zR} (h : fB_completeMark V n a0 x1 = some w) : z_Met l ⟨"BarrierMarks", "completeMark", "(LBarrierMarks$Mark;)V"⟩ prog_1_method_37_code 3 none 2 47 (zc w) (zs w) [.ref a0, va_rf x1] D dA V n w := by cases x1 <;> exact z_ofZ hl (by decide) (Nat.le_of_ble_eq_true rfl) (fun x C M => bB_completeMark C M V n a0 _ h)
/-! BarrierMarks.keeperTurn()I -/
def fB_keeperTurn (V : zV) (n : Nat) (a0 : Nat) : Option zR :=
    (zgR V (some a0) [5] 3).bind fun t1 =>
    (zgI V t1 [0] 3).bind fun t2 =>
    if t2 = 0 then (
    zrI (0 : Int32) V n) else (
    (zgR V (some a0) [5] 3).bind fun t3 =>
    (z_obj V t3 [0]).bind fun o => zcI (fK_firstMark V n o.1 ) fun t4 V n =>
    (z_obj V (some a0) [5]).bind fun o => zcR (fB_markAt V n o.1 t4) fun t5 V n =>
    (zgR V (some a0) [5] 3).bind fun t6 =>
    (z_obj V t6 [0]).bind fun o => zcI (fK_firstTask V n o.1 ) fun t7 V n =>
    (zgR V (some a0) [5] 3).bind fun t8 =>
    (z_obj V t8 [0]).bind fun o => zcV (fK_dropFirst V n o.1 ) fun V n =>
    (zgI V t5 [3] 8).bind fun t9 =>
    if t9 = 0 then (
    (zgR V t5 [3] 3).bind fun t10 =>
    (zaI V t10 2 t7).bind fun t11 =>
    if t11 = 0 then (
    (zgR V t5 [3] 3).bind fun t12 =>
    (zsZ V t12 2 t7 (1 : Int32)).bind fun V =>
    (zgI V t5 [3] 7).bind fun t13 =>
    (zpI V t5 [3] 7 ((t13 + (1 : Int32)))).bind fun V =>
    (zgI V t5 [3] 7).bind fun t14 =>
    (zgR V (some a0) [5] 0).bind fun t15 =>
    (zalen V t15 3).bind fun t16 =>
    if t16 ≤ t14 then (
    (z_obj V (some a0) [5]).bind fun o => zcV (fB_completeMark V n o.1 t5) fun V n =>
    zrI (8 : Int32) V n) else (
    zrI (7 : Int32) V n)) else (
    zrI (7 : Int32) V n)) else (
    zrI (7 : Int32) V n))
set_option maxHeartbeats 4000000 in
set_option maxRecDepth 100000 in
theorem bB_keeperTurn {x : zX} {w : zR} (C : zC x prog_1_method_36_code "BarrierMarks" "keeperTurn" 3 7 103 (some .int)) (M : zM x (zc w) (zs w)) : ∀ (V : zV) (n : Nat) (a0 : Nat), fB_keeperTurn V n a0 = some w → zZ x 3 0 0 w V n 0 [(0, va_rf (some a0))] [] := by
  intro V n a0 h
  unfold fB_keeperTurn at h
  refine z_aload_n C 0 dB_keeperTurn_0 rfl rfl ?_
  refine z_getR C fl_B_24 dB_keeperTurn_1 h (fun t1 h => ?_)
  refine z_getI C fl_B_172 dB_keeperTurn_4 h (fun t2 h => ?_)
  refine z_if_ne C 12 dB_keeperTurn_7 (by decide) h (fun h => ?_) (fun h => ?_)
  · refine z_aload_n C 0 dB_keeperTurn_12 rfl rfl ?_
    refine z_aload_n C 0 dB_keeperTurn_13 rfl rfl ?_
    refine z_getR C fl_B_24 dB_keeperTurn_14 h (fun t3 h => ?_)
    refine z_vPI (ci := 0) C M zRmP [] cv_B_279 rfl (by decide) (by decide) rfl rfl (by first | decide | (simp [zrfcat, zicat, zlcat]; done)) dB_keeperTurn_17 (fun b => fK_firstMark V n b ) h (fun b w1 e1 l D dA hl => mK_firstMark hl e1) (fun t4 V n h => ?_)
    refine z_vPR (ci := 5) C M zRmP [.int t4] cv_B_230 rfl (by decide) (by decide) rfl rfl (Nat.zero_le _) dB_keeperTurn_20 (fun b => fB_markAt V n b t4) h (fun b w1 e1 l D dA hl => mB_markAt hl e1) (fun t5 V n h => ?_)
    refine z_astore_n (lv' := [(1, va_rf t5), (0, va_rf (some a0))]) (i := 1) C dB_keeperTurn_23 rfl (by decide) rfl ?_
    refine z_aload_n C 1 dB_keeperTurn_24 rfl rfl ?_
    refine z_getR C fl_B_24 dB_keeperTurn_25 h (fun t6 h => ?_)
    refine z_vPI (ci := 0) C M zRmP [] cv_B_282 rfl (by decide) (by decide) rfl rfl (Nat.zero_le _) dB_keeperTurn_28 (fun b => fK_firstTask V n b ) h (fun b w1 e1 l D dA hl => mK_firstTask hl e1) (fun t7 V n h => ?_)
    refine z_istore_n (lv' := [(2, .int t7), (1, va_rf t5), (0, va_rf (some a0))]) (i := 2) C dB_keeperTurn_31 rfl (by decide) (by first | rfl | simp [zrfcat]) ?_
    refine z_aload_n C 2 dB_keeperTurn_32 rfl rfl ?_
    refine z_getR C fl_B_24 dB_keeperTurn_33 h (fun t8 h => ?_)
    refine z_vPV (ci := 0) C M zRmP [] cv_B_285 rfl (by decide) (by decide) rfl rfl (Nat.zero_le _) dB_keeperTurn_36 (fun b => fK_dropFirst V n b ) h (fun b w1 e1 l D dA hl => mK_dropFirst hl e1) (fun V n h => ?_)
    refine z_aload_n C 1 dB_keeperTurn_39 rfl rfl ?_
    refine z_getI C fl_B_183 dB_keeperTurn_40 h (fun t9 h => ?_)
    refine z_if_ne C 55 dB_keeperTurn_43 (by decide) h (fun h => ?_) (fun h => ?_)
    · refine z_bipush (v := 7) C dB_keeperTurn_55 (by decide) ?_
      exact z_iret C M (Nat.zero_le _) (Nat.zero_le _) dB_keeperTurn_57 h
    · refine z_aload_n C 1 dB_keeperTurn_46 rfl rfl ?_
      refine z_getR C fl_B_288 dB_keeperTurn_47 h (fun t10 h => ?_)
      refine z_iload_n C 0 dB_keeperTurn_50 rfl rfl ?_
      refine z_zald C rfl dB_keeperTurn_51 h (fun t11 h => ?_)
      refine z_if_eq C 58 dB_keeperTurn_52 (by decide) h (fun h => ?_) (fun h => ?_)
      · refine z_aload_n C 1 dB_keeperTurn_58 rfl rfl ?_
        refine z_getR C fl_B_288 dB_keeperTurn_59 h (fun t12 h => ?_)
        refine z_iload_n C 0 dB_keeperTurn_62 rfl rfl ?_
        refine z_iconst (v := 1) C dB_keeperTurn_63 (by decide) ?_
        refine z_zast C rfl dB_keeperTurn_64 h (fun V h => ?_)
        refine z_aload_n C 1 dB_keeperTurn_65 rfl rfl ?_
        refine z_dup C dB_keeperTurn_66 (zrfcat _) ?_
        refine z_getI C fl_B_160 dB_keeperTurn_67 h (fun t13 h => ?_)
        refine z_iconst (v := 1) C dB_keeperTurn_70 (by decide) ?_
        refine z_iadd C dB_keeperTurn_71 ?_
        refine z_putI C pf_B_160 (fun h => absurd h (by decide)) dB_keeperTurn_72 h (fun V h => ?_)
        refine z_aload_n C 1 dB_keeperTurn_75 rfl rfl ?_
        refine z_getI C fl_B_160 dB_keeperTurn_76 h (fun t14 h => ?_)
        refine z_aload_n C 2 dB_keeperTurn_79 rfl rfl ?_
        refine z_getR C fl_B_39 dB_keeperTurn_80 h (fun t15 h => ?_)
        refine z_alen C rfl dB_keeperTurn_83 h (fun t16 h => ?_)
        refine z_icmp_ge C 90 dB_keeperTurn_84 (by decide) h (fun h => ?_) (fun h => ?_)
        · refine z_aload_n C 2 dB_keeperTurn_90 rfl rfl ?_
          refine z_aload_n C 1 dB_keeperTurn_91 rfl rfl ?_
          refine z_vPV (ci := 5) C M zRmP [va_rf t5] cv_B_291 rfl (by decide) (by decide) rfl rfl (Nat.zero_le _) dB_keeperTurn_92 (fun b => fB_completeMark V n b t5) h (fun b w1 e1 l D dA hl => mB_completeMark hl e1) (fun V n h => ?_)
          refine z_bipush (v := 8) C dB_keeperTurn_95 (by decide) ?_
          exact z_iret C M (Nat.zero_le _) (Nat.zero_le _) dB_keeperTurn_97 h
        · refine z_bipush (v := 7) C dB_keeperTurn_87 (by decide) ?_
          exact z_iret C M (Nat.zero_le _) (Nat.zero_le _) dB_keeperTurn_89 h
      · refine z_bipush (v := 7) C dB_keeperTurn_55 (by decide) ?_
        exact z_iret C M (Nat.zero_le _) (Nat.zero_le _) dB_keeperTurn_57 h
  · refine z_iconst (v := 0) C dB_keeperTurn_10 (by decide) ?_
    exact z_iret C M (Nat.zero_le _) (Nat.zero_le _) dB_keeperTurn_11 h
theorem mB_keeperTurn {l : Launch} {D : va_G} {dA : Nat → ClassId} {V : zV} {n : Nat} (hl : l.stackTraces = false) {a0 : Nat} {w : zR} (h : fB_keeperTurn V n a0 = some w) : z_Met l ⟨"BarrierMarks", "keeperTurn", "()I"⟩ prog_1_method_36_code 3 (some .int) 7 103 (zc w) (zs w) [.ref a0] D dA V n w := by exact z_ofZ hl (by decide) (Nat.le_of_ble_eq_true rfl) (fun x C M => bB_keeperTurn C M V n a0 h)
/-! BarrierMarks.takeNext(LBarrierMarks$Task;)I -/
def fB_takeNext_45 (V : zV) (n : Nat) (x1 : Option Nat) (x2 : Int32) (x3 : Option Nat) (x4 : Int32) (x5 : Int64) : Option zR :=
    (z_obj V x3 [1, 2]).bind fun o => zdV (if o.2.1 = 1 then fS_passNext V n o.1  else fL_passNext V n o.1 ) fun V n =>
    (z_obj V x1 [4]).bind fun o => zcV (fT_lookFromBehind V n o.1 x2) fun V n =>
    if x4 = 0 then (
    (zgL V x1 [4] 6).bind fun t1 =>
    (zpL V x1 [4] 6 (t1 + x5)).bind fun V =>
    (zgI V x1 [4] 7).bind fun t2 =>
    (zpI V x1 [4] 7 ((t2 + (1 : Int32)))).bind fun V =>
    (zgI V x1 [4] 0).bind fun t3 =>
    (z_obj V x1 [4]).bind fun o => zcV (fT_putOut V n o.1 (0 : Int32) ((((3 : Int64) * x5) + t3.toInt64))) fun V n =>
    zrI (1 : Int32) V n) else (
    if x4 = (1 : Int32) then (
    (zpI V x3 [1, 2] 2 x5.toInt32).bind fun V =>
    zrI (2 : Int32) V n) else (
    (zpZ V x3 [1, 2] 3 (1 : Int32)).bind fun V =>
    zrI (3 : Int32) V n))
set_option maxHeartbeats 4000000 in
set_option maxRecDepth 100000 in
theorem bB_takeNext_45 {x : zX} {w : zR} (C : zC x prog_1_method_43_code "BarrierMarks" "takeNext" 7 3 62 (some .int)) (M : zM x (zc w) (zs w)) : ∀ (V : zV) (n : Nat) (x1 : Option Nat) (x2 : Int32) (x3 : Option Nat) (x4 : Int32) (x5 : Int64), fB_takeNext_45 V n x1 x2 x3 x4 x5 = some w → zZ x 7 0 0 w V n 45 [(1, va_rf x1), (2, .int x2), (3, va_rf x3), (4, .int x4), (5, .long x5)] [] := by
  intro V n x1 x2 x3 x4 x5 h
  unfold fB_takeNext_45 at h
  refine z_aload_n C 2 dB_takeNext_45 rfl rfl ?_
  refine z_aPV C M ⟨Nat.zero_le _, Nat.zero_le _⟩ [] ca_B_344_S ca_B_344_L rfl rfl (by decide) (by decide) (by decide) (by decide) rfl rfl (Nat.zero_le _) dB_takeNext_46 (fun b => fS_passNext V n b ) (fun b => fL_passNext V n b ) h (fun b w1 e1 l D dA hl => mS_passNext hl e1) (fun b w1 e1 l D dA hl => mL_passNext hl e1) (fun V n h => ?_)
  refine z_aload_n C 0 dB_takeNext_49 rfl rfl ?_
  refine z_iload_n C 1 dB_takeNext_50 rfl rfl ?_
  refine z_vPV (ci := 4) C M zRmP [.int x2] cv_B_347 rfl (by decide) (by decide) rfl rfl (Nat.zero_le _) dB_takeNext_51 (fun b => fT_lookFromBehind V n b x2) h (fun b w1 e1 l D dA hl => mT_lookFromBehind hl e1) (fun V n h => ?_)
  refine z_iload C 3 dB_takeNext_54 rfl ?_
  refine z_if_ne C 99 dB_takeNext_56 (by decide) h (fun h => ?_) (fun h => ?_)
  · refine z_iload C 3 dB_takeNext_99 rfl ?_
    refine z_iconst (v := 1) C dB_takeNext_101 (by decide) ?_
    refine z_icmp_ne C 114 dB_takeNext_102 (by decide) h (fun h => ?_) (fun h => ?_)
    · refine z_aload_n C 2 dB_takeNext_114 rfl rfl ?_
      refine z_iconst (v := 1) C dB_takeNext_115 (by decide) ?_
      refine z_putZ C pf_B_208 (fun h => absurd h (by decide)) dB_takeNext_116 h (fun V h => ?_)
      refine z_iconst (v := 3) C dB_takeNext_119 (by decide) ?_
      exact z_iret C M (Nat.zero_le _) (Nat.zero_le _) dB_takeNext_120 h
    · refine z_aload_n C 2 dB_takeNext_105 rfl rfl ?_
      refine z_lload C 4 dB_takeNext_106 rfl ?_
      refine z_l2i C dB_takeNext_108 ?_
      refine z_putI C pf_B_195 (fun h => absurd h (by decide)) dB_takeNext_109 h (fun V h => ?_)
      refine z_iconst (v := 2) C dB_takeNext_112 (by decide) ?_
      exact z_iret C M (Nat.zero_le _) (Nat.zero_le _) dB_takeNext_113 h
  · refine z_aload_n C 0 dB_takeNext_59 rfl rfl ?_
    refine z_dup C dB_takeNext_60 (zrfcat _) ?_
    refine z_getL C fl_B_212 dB_takeNext_61 h (fun t1 h => ?_)
    refine z_lload C 4 dB_takeNext_64 rfl ?_
    refine z_ladd C dB_takeNext_66 ?_
    refine z_putL C pf_B_212 (fun h => absurd h (by decide)) dB_takeNext_67 h (fun V h => ?_)
    refine z_aload_n C 0 dB_takeNext_70 rfl rfl ?_
    refine z_dup C dB_takeNext_71 (zrfcat _) ?_
    refine z_getI C fl_B_216 dB_takeNext_72 h (fun t2 h => ?_)
    refine z_iconst (v := 1) C dB_takeNext_75 (by decide) ?_
    refine z_iadd C dB_takeNext_76 ?_
    refine z_putI C pf_B_216 (fun h => absurd h (by decide)) dB_takeNext_77 h (fun V h => ?_)
    refine z_aload_n C 0 dB_takeNext_80 rfl rfl ?_
    refine z_iconst (v := 0) C dB_takeNext_81 (by decide) ?_
    refine z_ldc2 (v := 3) C dB_takeNext_82 kl_B_350 ?_
    refine z_lload C 4 dB_takeNext_85 rfl ?_
    refine z_lmul C dB_takeNext_87 ?_
    refine z_aload_n C 0 dB_takeNext_88 rfl rfl ?_
    refine z_getI C fl_B_304 dB_takeNext_89 h (fun t3 h => ?_)
    refine z_i2l C dB_takeNext_92 ?_
    refine z_ladd C dB_takeNext_93 ?_
    refine z_vPV (ci := 4) C M zRmP [.int (0 : Int32), .long ((((3 : Int64) * x5) + t3.toInt64))] cv_B_324 rfl (by decide) (by decide) rfl rfl (Nat.zero_le _) dB_takeNext_94 (fun b => fT_putOut V n b (0 : Int32) ((((3 : Int64) * x5) + t3.toInt64))) h (fun b w1 e1 l D dA hl => mT_putOut hl e1) (fun V n h => ?_)
    refine z_iconst (v := 1) C dB_takeNext_97 (by decide) ?_
    exact z_iret C M (Nat.zero_le _) (Nat.zero_le _) dB_takeNext_98 h
def fB_takeNext (V : zV) (n : Nat) (a0 : Nat) (x1 : Option Nat) : Option zR :=
    (z_obj V x1 [4]).bind fun o => zcI (fT_nextOffer V n o.1 ) fun t1 V n =>
    if t1 = (-1 : Int32) then (
    zrI (0 : Int32) V n) else (
    (zgR V x1 [4] 1).bind fun t2 =>
    (zaR V t2 4 t1).bind fun t3 =>
    (z_obj V t3 [1, 2]).bind fun o => zdI (if o.2.1 = 1 then fS_nextKind V n o.1  else fL_nextKind V n o.1 ) fun t4 V n =>
    (z_obj V t3 [1, 2]).bind fun o => zdL (if o.2.1 = 1 then fS_nextValue V n o.1  else fL_nextValue V n o.1 ) fun t5 V n =>
    if t4 = 0 then (
    (z_obj V x1 [4]).bind fun o => zcI (fT_hasCredits V n o.1 ) fun t6 V n =>
    if t6 = 0 then (
    zrI (0 : Int32) V n) else (
    fB_takeNext_45 V n x1 t1 t3 t4 t5)) else (
    fB_takeNext_45 V n x1 t1 t3 t4 t5))
set_option maxHeartbeats 4000000 in
set_option maxRecDepth 100000 in
theorem bB_takeNext {x : zX} {w : zR} (C : zC x prog_1_method_43_code "BarrierMarks" "takeNext" 7 3 62 (some .int)) (M : zM x (zc w) (zs w)) : ∀ (V : zV) (n : Nat) (a0 : Nat) (x1 : Option Nat), fB_takeNext V n a0 x1 = some w → zZ x 7 0 0 w V n 0 [(0, va_rf (some a0)), (1, va_rf x1)] [] := by
  intro V n a0 x1 h
  unfold fB_takeNext at h
  refine z_aload_n C 1 dB_takeNext_0 rfl rfl ?_
  refine z_vPI (ci := 4) C M zRmP [] cv_B_331 rfl (by decide) (by decide) rfl rfl (Nat.zero_le _) dB_takeNext_1 (fun b => fT_nextOffer V n b ) h (fun b w1 e1 l D dA hl => mT_nextOffer hl e1) (fun t1 V n h => ?_)
  refine z_istore_n (lv' := [(2, .int t1), (0, va_rf (some a0)), (1, va_rf x1)]) (i := 2) C dB_takeNext_4 rfl (by decide) (by first | rfl | simp [zrfcat]) ?_
  refine z_iload_n C 0 dB_takeNext_5 rfl rfl ?_
  refine z_iconst (v := (-1)) C dB_takeNext_6 (by decide) ?_
  refine z_icmp_ne C 12 dB_takeNext_7 (by decide) h (fun h => ?_) (fun h => ?_)
  · refine z_aload_n C 2 dB_takeNext_12 rfl rfl ?_
    refine z_getR C fl_B_334 dB_takeNext_13 h (fun t2 h => ?_)
    refine z_iload_n C 0 dB_takeNext_16 rfl rfl ?_
    refine z_aald C rfl dB_takeNext_17 h (fun t3 h => ?_)
    refine z_astore_n (lv' := [(3, va_rf t3), (2, .int t1), (0, va_rf (some a0)), (1, va_rf x1)]) (i := 3) C dB_takeNext_18 rfl (by decide) rfl ?_
    refine z_aload_n C 0 dB_takeNext_19 rfl rfl ?_
    refine z_aPI C M ⟨Nat.zero_le _, Nat.zero_le _⟩ [] ca_B_337_S ca_B_337_L rfl rfl (by decide) (by decide) (by decide) (by decide) rfl rfl (Nat.zero_le _) dB_takeNext_20 (fun b => fS_nextKind V n b ) (fun b => fL_nextKind V n b ) h (fun b w1 e1 l D dA hl => mS_nextKind hl e1) (fun b w1 e1 l D dA hl => mL_nextKind hl e1) (fun t4 V n h => ?_)
    refine z_istore (lv' := [(4, .int t4), (3, va_rf t3), (2, .int t1), (0, va_rf (some a0)), (1, va_rf x1)]) C dB_takeNext_23 (by decide) (by first | rfl | simp [zrfcat]) ?_
    refine z_aload_n C 1 dB_takeNext_25 rfl rfl ?_
    refine z_aPL C M ⟨Nat.zero_le _, Nat.zero_le _⟩ [] ca_B_340_S ca_B_340_L rfl rfl (by decide) (by decide) (by decide) (by decide) rfl rfl (Nat.zero_le _) dB_takeNext_26 (fun b => fS_nextValue V n b ) (fun b => fL_nextValue V n b ) h (fun b w1 e1 l D dA hl => mS_nextValue hl e1) (fun b w1 e1 l D dA hl => mL_nextValue hl e1) (fun t5 V n h => ?_)
    refine z_lstore (lv' := [(5, .long t5), (4, .int t4), (3, va_rf t3), (2, .int t1), (0, va_rf (some a0)), (1, va_rf x1)]) C dB_takeNext_29 (by decide) rfl ?_
    refine z_iload C 1 dB_takeNext_31 rfl ?_
    refine z_if_ne C 45 dB_takeNext_33 (by decide) h (fun h => ?_) (fun h => ?_)
    · refine z_sub [5, 3, 2, 1, 0] rfl ?_
      exact bB_takeNext_45 C M V n x1 t1 t3 t4 t5 h
    · refine z_aload_n C 5 dB_takeNext_36 rfl rfl ?_
      refine z_vPI (ci := 4) C M zRmP [] cv_B_321 rfl (by decide) (by decide) rfl rfl (Nat.zero_le _) dB_takeNext_37 (fun b => fT_hasCredits V n b ) h (fun b w1 e1 l D dA hl => mT_hasCredits hl e1) (fun t6 V n h => ?_)
      refine z_if_ne C 45 dB_takeNext_40 (by decide) h (fun h => ?_) (fun h => ?_)
      · refine z_sub [5, 3, 2, 1, 0] rfl ?_
        exact bB_takeNext_45 C M V n x1 t1 t3 t4 t5 h
      · refine z_iconst (v := 0) C dB_takeNext_43 (by decide) ?_
        exact z_iret C M (Nat.zero_le _) (Nat.zero_le _) dB_takeNext_44 h
  · refine z_iconst (v := 0) C dB_takeNext_10 (by decide) ?_
    exact z_iret C M (Nat.zero_le _) (Nat.zero_le _) dB_takeNext_11 h
theorem mB_takeNext {l : Launch} {D : va_G} {dA : Nat → ClassId} {V : zV} {n : Nat} (hl : l.stackTraces = false) {a0 : Nat} {x1 : Option Nat} {w : zR} (h : fB_takeNext V n a0 x1 = some w) : z_Met l ⟨"BarrierMarks", "takeNext", "(LBarrierMarks$Task;)I"⟩ prog_1_method_43_code 7 (some .int) 3 62 (zc w) (zs w) [.ref a0, va_rf x1] D dA V n w := by cases x1 <;> exact z_ofZ hl (by decide) (Nat.le_of_ble_eq_true rfl) (fun x C M => bB_takeNext C M V n a0 _ h)
/-! BarrierMarks.endTask(LBarrierMarks$Task;)I -/
def fB_endTask_61 (K13 : zV → Nat → Nat → Option Nat → Int32 → Option zR) (V : zV) (n : Nat) (a0 : Nat) (x1 : Option Nat) (x2 : Int32) : Option zR :=
    K13 V n a0 x1 (x2 + 1)
set_option maxHeartbeats 4000000 in
set_option maxRecDepth 100000 in
theorem bB_endTask_61 {x : zX} {w : zR} {K13 : zV → Nat → Nat → Option Nat → Int32 → Option zR} (C : zC x prog_1_method_42_code "BarrierMarks" "endTask" 3 2 47 (some .int)) (M : zM x (zc w) (zs w)) (hK13 : ∀ (V : zV) (n : Nat) (a0 : Nat) (x1 : Option Nat) (x2 : Int32), K13 V n a0 x1 x2 = some w → zZ x 3 0 0 w V n 13 [(0, va_rf (some a0)), (1, va_rf x1), (2, .int x2)] []) : ∀ (V : zV) (n : Nat) (a0 : Nat) (x1 : Option Nat) (x2 : Int32), fB_endTask_61 K13 V n a0 x1 x2 = some w → zZ x 3 0 0 w V n 61 [(0, va_rf (some a0)), (1, va_rf x1), (2, .int x2)] [] := by
  intro V n a0 x1 x2 h
  unfold fB_endTask_61 at h
  refine z_iinc (lv' := [(2, .int (x2 + 1)), (0, va_rf (some a0)), (1, va_rf x1)]) C 2 dB_endTask_61 rfl rfl (by decide) (by first | rfl | simp [zrfcat]) ?_
  refine z_goto C 13 dB_endTask_64 (by decide) ?_
  refine z_sub [1, 2, 0] rfl ?_
  exact hK13 V n a0 x1 (x2 + 1) h
def fB_endTask_13 : Nat → zV → Nat → Nat → Option Nat → Int32 → Option zR
  | 0 => fun _ _ _ _ _ => none
  | f9 + 1 => fun V n a0 x1 x2 =>
    (zgI V (some a0) [5] 7).bind fun t1 =>
    if t1 ≤ x2 then (
    zrI (6 : Int32) V n) else (
    (zgR V (some a0) [5] 2).bind fun t2 =>
    (zaR V t2 6 x2).bind fun t3 =>
    (zgI V t3 [3] 8).bind fun t4 =>
    if t4 = 0 then (
    (zgR V (some a0) [5] 2).bind fun t5 =>
    (zaR V t5 6 x2).bind fun t6 =>
    (zgR V t6 [3] 1).bind fun t7 =>
    (zgI V x1 [4] 0).bind fun t8 =>
    (zaI V t7 2 t8).bind fun t9 =>
    if t9 = 0 then (
    (zgR V (some a0) [5] 2).bind fun t10 =>
    (zaR V t10 6 x2).bind fun t11 =>
    (z_obj V (some a0) [5]).bind fun o => zcV (fB_keepAndAck V n o.1 t11 x1) fun V n =>
    fB_endTask_61 (fB_endTask_13 f9) V n a0 x1 x2) else (
    fB_endTask_61 (fB_endTask_13 f9) V n a0 x1 x2)) else (
    fB_endTask_61 (fB_endTask_13 f9) V n a0 x1 x2))
set_option maxHeartbeats 4000000 in
set_option maxRecDepth 100000 in
theorem bB_endTask_13 {x : zX} {w : zR} (C : zC x prog_1_method_42_code "BarrierMarks" "endTask" 3 2 47 (some .int)) (M : zM x (zc w) (zs w)) : ∀ (f9 : Nat) (V : zV) (n : Nat) (a0 : Nat) (x1 : Option Nat) (x2 : Int32), fB_endTask_13 f9 V n a0 x1 x2 = some w → zZ x 3 0 0 w V n 13 [(0, va_rf (some a0)), (1, va_rf x1), (2, .int x2)] [] := by
  intro f9
  induction f9 with
  | zero =>
    intro V n a0 x1 x2 h
    cases h
  | succ f9 ih =>
    intro V n a0 x1 x2 h
    unfold fB_endTask_13 at h
    refine z_iload_n C 2 dB_endTask_13 rfl rfl ?_
    refine z_aload_n C 0 dB_endTask_14 rfl rfl ?_
    refine z_getI C fl_B_122 dB_endTask_15 h (fun t1 h => ?_)
    refine z_icmp_ge C 67 dB_endTask_18 (by decide) h (fun h => ?_) (fun h => ?_)
    · refine z_bipush (v := 6) C dB_endTask_67 (by decide) ?_
      exact z_iret C M (Nat.zero_le _) (Nat.zero_le _) dB_endTask_69 h
    · refine z_aload_n C 0 dB_endTask_21 rfl rfl ?_
      refine z_getR C fl_B_17 dB_endTask_22 h (fun t2 h => ?_)
      refine z_iload_n C 2 dB_endTask_25 rfl rfl ?_
      refine z_aald C rfl dB_endTask_26 h (fun t3 h => ?_)
      refine z_getI C fl_B_183 dB_endTask_27 h (fun t4 h => ?_)
      refine z_if_ne C 61 dB_endTask_30 (by decide) h (fun h => ?_) (fun h => ?_)
      · exact bB_endTask_61 C M ih V n a0 x1 x2 h
      · refine z_aload_n C 0 dB_endTask_33 rfl rfl ?_
        refine z_getR C fl_B_17 dB_endTask_34 h (fun t5 h => ?_)
        refine z_iload_n C 2 dB_endTask_37 rfl rfl ?_
        refine z_aald C rfl dB_endTask_38 h (fun t6 h => ?_)
        refine z_getR C fl_B_163 dB_endTask_39 h (fun t7 h => ?_)
        refine z_aload_n C 1 dB_endTask_42 rfl rfl ?_
        refine z_getI C fl_B_304 dB_endTask_43 h (fun t8 h => ?_)
        refine z_zald C rfl dB_endTask_46 h (fun t9 h => ?_)
        refine z_if_ne C 61 dB_endTask_47 (by decide) h (fun h => ?_) (fun h => ?_)
        · exact bB_endTask_61 C M ih V n a0 x1 x2 h
        · refine z_aload_n C 0 dB_endTask_50 rfl rfl ?_
          refine z_aload_n C 0 dB_endTask_51 rfl rfl ?_
          refine z_getR C fl_B_17 dB_endTask_52 h (fun t10 h => ?_)
          refine z_iload_n C 2 dB_endTask_55 rfl rfl ?_
          refine z_aald C rfl dB_endTask_56 h (fun t11 h => ?_)
          refine z_aload_n C 1 dB_endTask_57 rfl rfl ?_
          refine z_vPV (ci := 5) C M zRmP [va_rf t11, va_rf x1] cv_B_134 rfl (by decide) (by decide) rfl rfl (Nat.zero_le _) dB_endTask_58 (fun b => fB_keepAndAck V n b t11 x1) h (fun b w1 e1 l D dA hl => mB_keepAndAck hl e1) (fun V n h => ?_)
          exact bB_endTask_61 C M ih V n a0 x1 x2 h
def fB_endTask (V : zV) (n : Nat) (a0 : Nat) (x1 : Option Nat) : Option zR :=
    (zpZ V x1 [4] 8 (1 : Int32)).bind fun V =>
    (z_obj V x1 [4]).bind fun o => zcV (fT_putOut V n o.1 (2 : Int32) (0 : Int64)) fun V n =>
    fB_endTask_13 zF V n a0 x1 (0 : Int32)
set_option maxHeartbeats 4000000 in
set_option maxRecDepth 100000 in
theorem bB_endTask {x : zX} {w : zR} (C : zC x prog_1_method_42_code "BarrierMarks" "endTask" 3 2 47 (some .int)) (M : zM x (zc w) (zs w)) : ∀ (V : zV) (n : Nat) (a0 : Nat) (x1 : Option Nat), fB_endTask V n a0 x1 = some w → zZ x 3 0 0 w V n 0 [(0, va_rf (some a0)), (1, va_rf x1)] [] := by
  intro V n a0 x1 h
  unfold fB_endTask at h
  refine z_aload_n C 1 dB_endTask_0 rfl rfl ?_
  refine z_iconst (v := 1) C dB_endTask_1 (by decide) ?_
  refine z_putZ C pf_B_131 (fun h => absurd h (by decide)) dB_endTask_2 h (fun V h => ?_)
  refine z_aload_n C 1 dB_endTask_5 rfl rfl ?_
  refine z_iconst (v := 2) C dB_endTask_6 (by decide) ?_
  refine z_lconst (v := 0) C dB_endTask_7 (by decide) ?_
  refine z_vPV (ci := 4) C M zRmP [.int (2 : Int32), .long (0 : Int64)] cv_B_324 rfl (by decide) (by decide) rfl rfl (Nat.zero_le _) dB_endTask_8 (fun b => fT_putOut V n b (2 : Int32) (0 : Int64)) h (fun b w1 e1 l D dA hl => mT_putOut hl e1) (fun V n h => ?_)
  refine z_iconst (v := 0) C dB_endTask_11 (by decide) ?_
  refine z_istore_n (lv' := [(2, .int (0 : Int32)), (0, va_rf (some a0)), (1, va_rf x1)]) (i := 2) C dB_endTask_12 rfl (by decide) (by first | rfl | simp [zrfcat]) ?_
  refine z_sub [1, 2, 0] rfl ?_
  exact bB_endTask_13 C M zF V n a0 x1 (0 : Int32) h
theorem mB_endTask {l : Launch} {D : va_G} {dA : Nat → ClassId} {V : zV} {n : Nat} (hl : l.stackTraces = false) {a0 : Nat} {x1 : Option Nat} {w : zR} (h : fB_endTask V n a0 x1 = some w) : z_Met l ⟨"BarrierMarks", "endTask", "(LBarrierMarks$Task;)I"⟩ prog_1_method_42_code 3 (some .int) 2 47 (zc w) (zs w) [.ref a0, va_rf x1] D dA V n w := by cases x1 <;> exact z_ofZ hl (by decide) (Nat.le_of_ble_eq_true rfl) (fun x C M => bB_endTask C M V n a0 _ h)
/-! BarrierMarks.keepFor(LBarrierMarks$Task;LBarrierMarks$Mark;)I -/
def fB_keepFor (V : zV) (n : Nat) (a0 : Nat) (x1 : Option Nat) (x2 : Option Nat) : Option zR :=
    (z_obj V x1 [4]).bind fun o => zcI (fT_hasCredits V n o.1 ) fun t1 V n =>
    if t1 = 0 then (
    zrI (0 : Int32) V n) else (
    (zgR V x2 [3] 2).bind fun t2 =>
    (zgI V x1 [4] 0).bind fun t3 =>
    (zaI V t2 2 t3).bind fun t4 =>
    if t4 = 0 then (
    (zgI V x2 [3] 0).bind fun t5 =>
    (z_obj V x1 [4]).bind fun o => zcV (fT_putOut V n o.1 (1 : Int32) t5.toInt64) fun V n =>
    (z_obj V x1 [4]).bind fun o => zcV (fT_letGo V n o.1 ) fun V n =>
    (z_obj V (some a0) [5]).bind fun o => zcV (fB_keepAndAck V n o.1 x2 x1) fun V n =>
    zrI (4 : Int32) V n) else (
    (z_obj V (some a0) [5]).bind fun o => zcV (fB_stopMark V n o.1 x2 (2 : Int32)) fun V n =>
    zrI (5 : Int32) V n))
set_option maxHeartbeats 4000000 in
set_option maxRecDepth 100000 in
theorem bB_keepFor {x : zX} {w : zR} (C : zC x prog_1_method_41_code "BarrierMarks" "keepFor" 3 2 47 (some .int)) (M : zM x (zc w) (zs w)) : ∀ (V : zV) (n : Nat) (a0 : Nat) (x1 : Option Nat) (x2 : Option Nat), fB_keepFor V n a0 x1 x2 = some w → zZ x 3 0 0 w V n 0 [(0, va_rf (some a0)), (1, va_rf x1), (2, va_rf x2)] [] := by
  intro V n a0 x1 x2 h
  unfold fB_keepFor at h
  refine z_aload_n C 1 dB_keepFor_0 rfl rfl ?_
  refine z_vPI (ci := 4) C M zRmP [] cv_B_321 rfl (by decide) (by decide) rfl rfl (Nat.zero_le _) dB_keepFor_1 (fun b => fT_hasCredits V n b ) h (fun b w1 e1 l D dA hl => mT_hasCredits hl e1) (fun t1 V n h => ?_)
  refine z_if_ne C 9 dB_keepFor_4 (by decide) h (fun h => ?_) (fun h => ?_)
  · refine z_aload_n C 2 dB_keepFor_9 rfl rfl ?_
    refine z_getR C fl_B_167 dB_keepFor_10 h (fun t2 h => ?_)
    refine z_aload_n C 1 dB_keepFor_13 rfl rfl ?_
    refine z_getI C fl_B_304 dB_keepFor_14 h (fun t3 h => ?_)
    refine z_zald C rfl dB_keepFor_17 h (fun t4 h => ?_)
    refine z_if_eq C 29 dB_keepFor_18 (by decide) h (fun h => ?_) (fun h => ?_)
    · refine z_aload_n C 1 dB_keepFor_29 rfl rfl ?_
      refine z_iconst (v := 1) C dB_keepFor_30 (by decide) ?_
      refine z_aload_n C 2 dB_keepFor_31 rfl rfl ?_
      refine z_getI C fl_B_294 dB_keepFor_32 h (fun t5 h => ?_)
      refine z_i2l C dB_keepFor_35 ?_
      refine z_vPV (ci := 4) C M zRmP [.int (1 : Int32), .long t5.toInt64] cv_B_324 rfl (by decide) (by decide) rfl rfl (Nat.zero_le _) dB_keepFor_36 (fun b => fT_putOut V n b (1 : Int32) t5.toInt64) h (fun b w1 e1 l D dA hl => mT_putOut hl e1) (fun V n h => ?_)
      refine z_aload_n C 1 dB_keepFor_39 rfl rfl ?_
      refine z_vPV (ci := 4) C M zRmP [] cv_B_328 rfl (by decide) (by decide) rfl rfl (Nat.zero_le _) dB_keepFor_40 (fun b => fT_letGo V n b ) h (fun b w1 e1 l D dA hl => mT_letGo hl e1) (fun V n h => ?_)
      refine z_aload_n C 0 dB_keepFor_43 rfl rfl ?_
      refine z_aload_n C 2 dB_keepFor_44 rfl rfl ?_
      refine z_aload_n C 1 dB_keepFor_45 rfl rfl ?_
      refine z_vPV (ci := 5) C M zRmP [va_rf x2, va_rf x1] cv_B_134 rfl (by decide) (by decide) rfl rfl (Nat.zero_le _) dB_keepFor_46 (fun b => fB_keepAndAck V n b x2 x1) h (fun b w1 e1 l D dA hl => mB_keepAndAck hl e1) (fun V n h => ?_)
      refine z_iconst (v := 4) C dB_keepFor_49 (by decide) ?_
      exact z_iret C M (Nat.zero_le _) (Nat.zero_le _) dB_keepFor_50 h
    · refine z_aload_n C 0 dB_keepFor_21 rfl rfl ?_
      refine z_aload_n C 2 dB_keepFor_22 rfl rfl ?_
      refine z_iconst (v := 2) C dB_keepFor_23 (by decide) ?_
      refine z_vPV (ci := 5) C M zRmP [va_rf x2, .int (2 : Int32)] cv_B_156 rfl (by decide) (by decide) rfl rfl (Nat.zero_le _) dB_keepFor_24 (fun b => fB_stopMark V n b x2 (2 : Int32)) h (fun b w1 e1 l D dA hl => mB_stopMark hl e1) (fun V n h => ?_)
      refine z_iconst (v := 5) C dB_keepFor_27 (by decide) ?_
      exact z_iret C M (Nat.zero_le _) (Nat.zero_le _) dB_keepFor_28 h
  · refine z_iconst (v := 0) C dB_keepFor_7 (by decide) ?_
    exact z_iret C M (Nat.zero_le _) (Nat.zero_le _) dB_keepFor_8 h
theorem mB_keepFor {l : Launch} {D : va_G} {dA : Nat → ClassId} {V : zV} {n : Nat} (hl : l.stackTraces = false) {a0 : Nat} {x1 : Option Nat} {x2 : Option Nat} {w : zR} (h : fB_keepFor V n a0 x1 x2 = some w) : z_Met l ⟨"BarrierMarks", "keepFor", "(LBarrierMarks$Task;LBarrierMarks$Mark;)I"⟩ prog_1_method_41_code 3 (some .int) 2 47 (zc w) (zs w) [.ref a0, va_rf x1, va_rf x2] D dA V n w := by cases x1 <;> cases x2 <;> exact z_ofZ hl (by decide) (Nat.le_of_ble_eq_true rfl) (fun x C M => bB_keepFor C M V n a0 _ _ h)
/-! BarrierMarks.taskTurn(LBarrierMarks$Task;)I -/
def fB_taskTurn (V : zV) (n : Nat) (a0 : Nat) (x1 : Option Nat) : Option zR :=
    (zgI V x1 [4] 8).bind fun t1 =>
    if t1 = 0 then (
    (zgI V x1 [4] 3).bind fun t2 =>
    if t2 = 0 then (
    zrI (0 : Int32) V n) else (
    (z_obj V x1 [4]).bind fun o => zcI (fT_hasOpen V n o.1 ) fun t3 V n =>
    if t3 = 0 then (
    (z_obj V x1 [4]).bind fun o => zcI (fT_heldFor V n o.1 ) fun t4 V n =>
    if t4 = (-1 : Int32) then (
    (z_obj V (some a0) [5]).bind fun o => zcI (fB_endTask V n o.1 x1) fun t7 V n =>
    zrI t7 V n) else (
    (z_obj V (some a0) [5]).bind fun o => zcR (fB_markAt V n o.1 t4) fun t5 V n =>
    (z_obj V (some a0) [5]).bind fun o => zcI (fB_keepFor V n o.1 x1 t5) fun t6 V n =>
    zrI t6 V n)) else (
    (z_obj V (some a0) [5]).bind fun o => zcI (fB_takeNext V n o.1 x1) fun t8 V n =>
    zrI t8 V n))) else (
    zrI (0 : Int32) V n)
set_option maxHeartbeats 4000000 in
set_option maxRecDepth 100000 in
theorem bB_taskTurn {x : zX} {w : zR} (C : zC x prog_1_method_40_code "BarrierMarks" "taskTurn" 3 7 103 (some .int)) (M : zM x (zc w) (zs w)) : ∀ (V : zV) (n : Nat) (a0 : Nat) (x1 : Option Nat), fB_taskTurn V n a0 x1 = some w → zZ x 3 0 0 w V n 0 [(0, va_rf (some a0)), (1, va_rf x1)] [] := by
  intro V n a0 x1 h
  unfold fB_taskTurn at h
  refine z_aload_n C 1 dB_taskTurn_0 rfl rfl ?_
  refine z_getI C fl_B_131 dB_taskTurn_1 h (fun t1 h => ?_)
  refine z_if_ne C 14 dB_taskTurn_4 (by decide) h (fun h => ?_) (fun h => ?_)
  · refine z_iconst (v := 0) C dB_taskTurn_14 (by decide) ?_
    exact z_iret C M (Nat.zero_le _) (Nat.zero_le _) dB_taskTurn_15 h
  · refine z_aload_n C 1 dB_taskTurn_7 rfl rfl ?_
    refine z_getI C fl_B_80 dB_taskTurn_8 h (fun t2 h => ?_)
    refine z_if_ne C 16 dB_taskTurn_11 (by decide) h (fun h => ?_) (fun h => ?_)
    · refine z_aload_n C 1 dB_taskTurn_16 rfl rfl ?_
      refine z_vPI (ci := 4) C M zRmP [] cv_B_305 rfl (by decide) (by decide) rfl rfl (Nat.zero_le _) dB_taskTurn_17 (fun b => fT_hasOpen V n b ) h (fun b w1 e1 l D dA hl => mT_hasOpen hl e1) (fun t3 V n h => ?_)
      refine z_if_eq C 29 dB_taskTurn_20 (by decide) h (fun h => ?_) (fun h => ?_)
      · refine z_aload_n C 1 dB_taskTurn_29 rfl rfl ?_
        refine z_vPI (ci := 4) C M zRmP [] cv_B_312 rfl (by decide) (by decide) rfl rfl (Nat.zero_le _) dB_taskTurn_30 (fun b => fT_heldFor V n b ) h (fun b w1 e1 l D dA hl => mT_heldFor hl e1) (fun t4 V n h => ?_)
        refine z_istore_n (lv' := [(2, .int t4), (0, va_rf (some a0)), (1, va_rf x1)]) (i := 2) C dB_taskTurn_33 rfl (by decide) (by first | rfl | simp [zrfcat]) ?_
        refine z_iload_n C 0 dB_taskTurn_34 rfl rfl ?_
        refine z_iconst (v := (-1)) C dB_taskTurn_35 (by decide) ?_
        refine z_icmp_ne C 47 dB_taskTurn_36 (by decide) h (fun h => ?_) (fun h => ?_)
        · refine z_aload_n C 1 dB_taskTurn_47 rfl rfl ?_
          refine z_aload_n C 2 dB_taskTurn_48 rfl rfl ?_
          refine z_aload_n C 1 dB_taskTurn_49 rfl rfl ?_
          refine z_iload_n C 0 dB_taskTurn_50 rfl rfl ?_
          refine z_vPR (ci := 5) C M zRmP [.int t4] cv_B_230 rfl (by decide) (by decide) rfl rfl (by first | decide | (simp [zrfcat, zicat, zlcat]; done)) dB_taskTurn_51 (fun b => fB_markAt V n b t4) h (fun b w1 e1 l D dA hl => mB_markAt hl e1) (fun t5 V n h => ?_)
          refine z_vPI (ci := 5) C M zRmP [va_rf x1, va_rf t5] cv_B_317 rfl (by decide) (by decide) rfl rfl (Nat.zero_le _) dB_taskTurn_54 (fun b => fB_keepFor V n b x1 t5) h (fun b w1 e1 l D dA hl => mB_keepFor hl e1) (fun t6 V n h => ?_)
          exact z_iret C M (Nat.zero_le _) (Nat.zero_le _) dB_taskTurn_57 h
        · refine z_aload_n C 1 dB_taskTurn_39 rfl rfl ?_
          refine z_aload_n C 2 dB_taskTurn_40 rfl rfl ?_
          refine z_vPI (ci := 5) C M zRmP [va_rf x1] cv_B_314 rfl (by decide) (by decide) rfl rfl (Nat.zero_le _) dB_taskTurn_41 (fun b => fB_endTask V n b x1) h (fun b w1 e1 l D dA hl => mB_endTask hl e1) (fun t7 V n h => ?_)
          refine z_goto C 57 dB_taskTurn_44 (by decide) ?_
          exact z_iret C M (Nat.zero_le _) (Nat.zero_le _) dB_taskTurn_57 h
      · refine z_aload_n C 0 dB_taskTurn_23 rfl rfl ?_
        refine z_aload_n C 1 dB_taskTurn_24 rfl rfl ?_
        refine z_vPI (ci := 5) C M zRmP [va_rf x1] cv_B_309 rfl (by decide) (by decide) rfl rfl (Nat.zero_le _) dB_taskTurn_25 (fun b => fB_takeNext V n b x1) h (fun b w1 e1 l D dA hl => mB_takeNext hl e1) (fun t8 V n h => ?_)
        exact z_iret C M (Nat.zero_le _) (Nat.zero_le _) dB_taskTurn_28 h
    · refine z_iconst (v := 0) C dB_taskTurn_14 (by decide) ?_
      exact z_iret C M (Nat.zero_le _) (Nat.zero_le _) dB_taskTurn_15 h
theorem mB_taskTurn {l : Launch} {D : va_G} {dA : Nat → ClassId} {V : zV} {n : Nat} (hl : l.stackTraces = false) {a0 : Nat} {x1 : Option Nat} {w : zR} (h : fB_taskTurn V n a0 x1 = some w) : z_Met l ⟨"BarrierMarks", "taskTurn", "(LBarrierMarks$Task;)I"⟩ prog_1_method_40_code 3 (some .int) 7 103 (zc w) (zs w) [.ref a0, va_rf x1] D dA V n w := by cases x1 <;> exact z_ofZ hl (by decide) (Nat.le_of_ble_eq_true rfl) (fun x C M => bB_taskTurn C M V n a0 _ h)
/-! BarrierMarks.turn(I)I -/
def fB_turn (V : zV) (n : Nat) (a0 : Nat) (x1 : Int32) : Option zR :=
    if x1 = (-1 : Int32) then (
    (z_obj V (some a0) [5]).bind fun o => zcI (fB_keeperTurn V n o.1 ) fun t3 V n =>
    zrI t3 V n) else (
    (z_obj V (some a0) [5]).bind fun o => zcR (fB_taskAt V n o.1 x1) fun t1 V n =>
    (z_obj V (some a0) [5]).bind fun o => zcI (fB_taskTurn V n o.1 t1) fun t2 V n =>
    zrI t2 V n)
set_option maxHeartbeats 4000000 in
set_option maxRecDepth 100000 in
theorem bB_turn {x : zX} {w : zR} (C : zC x prog_1_method_6_code "BarrierMarks" "turn" 2 8 125 (some .int)) (M : zM x (zc w) (zs w)) : ∀ (V : zV) (n : Nat) (a0 : Nat) (x1 : Int32), fB_turn V n a0 x1 = some w → zZ x 2 0 0 w V n 0 [(0, va_rf (some a0)), (1, .int x1)] [] := by
  intro V n a0 x1 h
  unfold fB_turn at h
  refine z_iload_n C 1 dB_turn_0 rfl rfl ?_
  refine z_iconst (v := (-1)) C dB_turn_1 (by decide) ?_
  refine z_icmp_ne C 12 dB_turn_2 (by decide) h (fun h => ?_) (fun h => ?_)
  · refine z_aload_n C 0 dB_turn_12 rfl rfl ?_
    refine z_aload_n C 0 dB_turn_13 rfl rfl ?_
    refine z_iload_n C 1 dB_turn_14 rfl rfl ?_
    refine z_vPR (ci := 5) C M zRmP [.int x1] cv_B_54 rfl (by decide) (by decide) rfl rfl (by first | decide | (simp [zrfcat, zicat, zlcat]; done)) dB_turn_15 (fun b => fB_taskAt V n b x1) h (fun b w1 e1 l D dA hl => mB_taskAt hl e1) (fun t1 V n h => ?_)
    refine z_vPI (ci := 5) C M zRmP [va_rf t1] cv_B_142 rfl (by decide) (by decide) rfl rfl (Nat.zero_le _) dB_turn_18 (fun b => fB_taskTurn V n b t1) h (fun b w1 e1 l D dA hl => mB_taskTurn hl e1) (fun t2 V n h => ?_)
    exact z_iret C M (Nat.zero_le _) (Nat.zero_le _) dB_turn_21 h
  · refine z_aload_n C 0 dB_turn_5 rfl rfl ?_
    refine z_vPI (ci := 5) C M zRmP [] cv_B_138 rfl (by decide) (by decide) rfl rfl (Nat.zero_le _) dB_turn_6 (fun b => fB_keeperTurn V n b ) h (fun b w1 e1 l D dA hl => mB_keeperTurn hl e1) (fun t3 V n h => ?_)
    refine z_goto C 21 dB_turn_9 (by decide) ?_
    exact z_iret C M (Nat.zero_le _) (Nat.zero_le _) dB_turn_21 h
theorem mB_turn {l : Launch} {D : va_G} {dA : Nat → ClassId} {V : zV} {n : Nat} (hl : l.stackTraces = false) {a0 : Nat} {x1 : Int32} {w : zR} (h : fB_turn V n a0 x1 = some w) : z_Met l ⟨"BarrierMarks", "turn", "(I)I"⟩ prog_1_method_6_code 2 (some .int) 8 125 (zc w) (zs w) [.ref a0, .int x1] D dA V n w := by exact z_ofZ hl (by decide) (Nat.le_of_ble_eq_true rfl) (fun x C M => bB_turn C M V n a0 x1 h)
/-! BarrierMarks.play(JI)I -/
def fB_play_105 (K31 : zV → Nat → Nat → Int32 → Int64 → Int32 → Int32 → Option zR) (V : zV) (n : Nat) (a0 : Nat) (x3 : Int32) (x4 : Int64) (x6 : Int32) (x7 : Int32) : Option zR :=
    K31 V n a0 x3 x4 x6 (x7 + 1)
set_option maxHeartbeats 4000000 in
set_option maxRecDepth 100000 in
theorem bB_play_105 {x : zX} {w : zR} {K31 : zV → Nat → Nat → Int32 → Int64 → Int32 → Int32 → Option zR} (C : zC x prog_1_method_7_code "BarrierMarks" "play" 10 8 125 (some .int)) (M : zM x (zc w) (zs w)) (hK31 : ∀ (V : zV) (n : Nat) (a0 : Nat) (x3 : Int32) (x4 : Int64) (x6 : Int32) (x7 : Int32), K31 V n a0 x3 x4 x6 x7 = some w → zZ x 10 0 0 w V n 31 [(0, va_rf (some a0)), (3, .int x3), (4, .long x4), (6, .int x6), (7, .int x7)] []) : ∀ (V : zV) (n : Nat) (a0 : Nat) (x3 : Int32) (x4 : Int64) (x6 : Int32) (x7 : Int32), fB_play_105 K31 V n a0 x3 x4 x6 x7 = some w → zZ x 10 0 0 w V n 105 [(0, va_rf (some a0)), (3, .int x3), (4, .long x4), (6, .int x6), (7, .int x7)] [] := by
  intro V n a0 x3 x4 x6 x7 h
  unfold fB_play_105 at h
  refine z_iinc (lv' := [(7, .int (x7 + 1)), (0, va_rf (some a0)), (3, .int x3), (4, .long x4), (6, .int x6)]) C 4 dB_play_105 rfl rfl (by decide) rfl ?_
  refine z_goto C 31 dB_play_108 (by decide) ?_
  refine z_sub [1, 2, 3, 4, 0] rfl ?_
  exact hK31 V n a0 x3 x4 x6 (x7 + 1) h
def fB_play_94 (K31 : zV → Nat → Nat → Int32 → Int64 → Int32 → Int32 → Option zR) (V : zV) (n : Nat) (a0 : Nat) (x3 : Int32) (x4 : Int64) (x6 : Int32) (x7 : Int32) (s0 : Int32) : Option zR :=
    if s0 = (1 : Int32) then (
    fB_play_105 K31 V n a0 x3 x4 (x6 + 1) x7) else (
    fB_play_105 K31 V n a0 x3 x4 x6 x7)
set_option maxHeartbeats 4000000 in
set_option maxRecDepth 100000 in
theorem bB_play_94 {x : zX} {w : zR} {K31 : zV → Nat → Nat → Int32 → Int64 → Int32 → Int32 → Option zR} (C : zC x prog_1_method_7_code "BarrierMarks" "play" 10 8 125 (some .int)) (M : zM x (zc w) (zs w)) (hK31 : ∀ (V : zV) (n : Nat) (a0 : Nat) (x3 : Int32) (x4 : Int64) (x6 : Int32) (x7 : Int32), K31 V n a0 x3 x4 x6 x7 = some w → zZ x 10 0 0 w V n 31 [(0, va_rf (some a0)), (3, .int x3), (4, .long x4), (6, .int x6), (7, .int x7)] []) : ∀ (V : zV) (n : Nat) (a0 : Nat) (x3 : Int32) (x4 : Int64) (x6 : Int32) (x7 : Int32) (s0 : Int32), fB_play_94 K31 V n a0 x3 x4 x6 x7 s0 = some w → zZ x 10 0 0 w V n 94 [(0, va_rf (some a0)), (3, .int x3), (4, .long x4), (6, .int x6), (7, .int x7)] [.int s0] := by
  intro V n a0 x3 x4 x6 x7 s0 h
  unfold fB_play_94 at h
  refine z_istore (lv' := [(9, .int s0), (0, va_rf (some a0)), (3, .int x3), (4, .long x4), (6, .int x6), (7, .int x7)]) C dB_play_94 (by decide) rfl ?_
  refine z_iload C 0 dB_play_96 rfl ?_
  refine z_iconst (v := 1) C dB_play_98 (by decide) ?_
  refine z_icmp_ne C 105 dB_play_99 (by decide) h (fun h => ?_) (fun h => ?_)
  · refine z_sub [1, 2, 3, 4, 5] rfl ?_
    exact bB_play_105 C M hK31 V n a0 x3 x4 x6 x7 h
  · refine z_iinc (lv' := [(6, .int (x6 + 1)), (9, .int s0), (0, va_rf (some a0)), (3, .int x3), (4, .long x4), (7, .int x7)]) C 4 dB_play_102 rfl rfl (by decide) rfl ?_
    refine z_sub [2, 3, 4, 0, 5] rfl ?_
    exact bB_play_105 C M hK31 V n a0 x3 x4 (x6 + 1) x7 h
def fB_play_31 : Nat → zV → Nat → Nat → Int32 → Int64 → Int32 → Int32 → Option zR
  | 0 => fun _ _ _ _ _ _ _ => none
  | f9 + 1 => fun V n a0 x3 x4 x6 x7 =>
    if x3 ≤ x7 then (
    zrI x6 V n) else (
    (zgR V (some a0) [5] 0).bind fun t1 =>
    (zalen V t1 3).bind fun t2 =>
    if (t2 + (1 : Int32)).toInt64 = 0 then none else
    (zgR V (some a0) [5] 0).bind fun t3 =>
    (zalen V t3 3).bind fun t4 =>
    if t4 ≤ (((((6364136223846793005 : Int64) * x4) + (1442695040888963407 : Int64)).toUInt64 >>> ((33 : Int32).toInt64.toUInt64 &&& Int64.toUInt64 63)).toInt64 - ((((6364136223846793005 : Int64) * x4) + (1442695040888963407 : Int64)).toUInt64 >>> ((33 : Int32).toInt64.toUInt64 &&& Int64.toUInt64 63)).toInt64 / (t2 + (1 : Int32)).toInt64 * (t2 + (1 : Int32)).toInt64).toInt32 then (
    (z_obj V (some a0) [5]).bind fun o => zcI (fB_keeperTurn V n o.1 ) fun t5 V n =>
    fB_play_94 (fB_play_31 f9) V n a0 x3 ((((6364136223846793005 : Int64) * x4) + (1442695040888963407 : Int64))) x6 x7 t5) else (
    (zgR V (some a0) [5] 0).bind fun t6 =>
    (zaR V t6 3 ((((((6364136223846793005 : Int64) * x4) + (1442695040888963407 : Int64)).toUInt64 >>> ((33 : Int32).toInt64.toUInt64 &&& Int64.toUInt64 63)).toInt64 - ((((6364136223846793005 : Int64) * x4) + (1442695040888963407 : Int64)).toUInt64 >>> ((33 : Int32).toInt64.toUInt64 &&& Int64.toUInt64 63)).toInt64 / (t2 + (1 : Int32)).toInt64 * (t2 + (1 : Int32)).toInt64).toInt32)).bind fun t7 =>
    (z_obj V (some a0) [5]).bind fun o => zcI (fB_taskTurn V n o.1 t7) fun t8 V n =>
    fB_play_94 (fB_play_31 f9) V n a0 x3 ((((6364136223846793005 : Int64) * x4) + (1442695040888963407 : Int64))) x6 x7 t8))
set_option maxHeartbeats 4000000 in
set_option maxRecDepth 100000 in
theorem bB_play_31 {x : zX} {w : zR} (C : zC x prog_1_method_7_code "BarrierMarks" "play" 10 8 125 (some .int)) (M : zM x (zc w) (zs w)) : ∀ (f9 : Nat) (V : zV) (n : Nat) (a0 : Nat) (x3 : Int32) (x4 : Int64) (x6 : Int32) (x7 : Int32), fB_play_31 f9 V n a0 x3 x4 x6 x7 = some w → zZ x 10 0 0 w V n 31 [(0, va_rf (some a0)), (3, .int x3), (4, .long x4), (6, .int x6), (7, .int x7)] [] := by
  intro f9
  induction f9 with
  | zero =>
    intro V n a0 x3 x4 x6 x7 h
    cases h
  | succ f9 ih =>
    intro V n a0 x3 x4 x6 x7 h
    unfold fB_play_31 at h
    refine z_iload C 4 dB_play_31 rfl ?_
    refine z_iload_n C 1 dB_play_33 rfl rfl ?_
    refine z_icmp_ge C 111 dB_play_34 (by decide) h (fun h => ?_) (fun h => ?_)
    · refine z_iload C 3 dB_play_111 rfl ?_
      exact z_iret C M (Nat.zero_le _) (Nat.zero_le _) dB_play_113 h
    · refine z_ldc2 (v := 6364136223846793005) C dB_play_37 kl_B_148 ?_
      refine z_lload C 2 dB_play_40 rfl ?_
      refine z_lmul C dB_play_42 ?_
      refine z_ldc2 (v := 1442695040888963407) C dB_play_43 kl_B_150 ?_
      refine z_ladd C dB_play_46 ?_
      refine z_lstore (lv' := [(4, .long (((6364136223846793005 : Int64) * x4) + (1442695040888963407 : Int64))), (0, va_rf (some a0)), (3, .int x3), (6, .int x6), (7, .int x7)]) C dB_play_47 (by decide) rfl ?_
      refine z_lload C 0 dB_play_49 rfl ?_
      refine z_bipush (v := 33) C dB_play_51 (by decide) ?_
      refine z_lushr C dB_play_53 ?_
      refine z_aload_n C 1 dB_play_54 rfl rfl ?_
      refine z_getR C fl_B_39 dB_play_55 h (fun t1 h => ?_)
      refine z_alen C rfl dB_play_58 h (fun t2 h => ?_)
      refine z_iconst (v := 1) C dB_play_59 (by decide) ?_
      refine z_iadd C dB_play_60 ?_
      refine z_i2l C dB_play_61 ?_
      by_cases hz9 : (t2 + (1 : Int32)).toInt64 = 0
      · rw [if_pos hz9] at h; cases h
      rw [if_neg hz9] at h
      refine z_lrem C dB_play_62 hz9 ?_
      refine z_l2i C dB_play_63 ?_
      refine z_istore (lv' := [(8, .int (((((6364136223846793005 : Int64) * x4) + (1442695040888963407 : Int64)).toUInt64 >>> ((33 : Int32).toInt64.toUInt64 &&& Int64.toUInt64 63)).toInt64 - ((((6364136223846793005 : Int64) * x4) + (1442695040888963407 : Int64)).toUInt64 >>> ((33 : Int32).toInt64.toUInt64 &&& Int64.toUInt64 63)).toInt64 / (t2 + (1 : Int32)).toInt64 * (t2 + (1 : Int32)).toInt64).toInt32), (4, .long (((6364136223846793005 : Int64) * x4) + (1442695040888963407 : Int64))), (0, va_rf (some a0)), (3, .int x3), (6, .int x6), (7, .int x7)]) C dB_play_64 (by decide) rfl ?_
      refine z_iload C 0 dB_play_66 rfl ?_
      refine z_aload_n C 2 dB_play_68 rfl rfl ?_
      refine z_getR C fl_B_39 dB_play_69 h (fun t3 h => ?_)
      refine z_alen C rfl dB_play_72 h (fun t4 h => ?_)
      refine z_icmp_ge C 90 dB_play_73 (by decide) h (fun h => ?_) (fun h => ?_)
      · refine z_aload_n C 2 dB_play_90 rfl rfl ?_
        refine z_vPI (ci := 5) C M zRmP [] cv_B_138 rfl (by decide) (by decide) rfl rfl (Nat.zero_le _) dB_play_91 (fun b => fB_keeperTurn V n b ) h (fun b w1 e1 l D dA hl => mB_keeperTurn hl e1) (fun t5 V n h => ?_)
        refine z_sub [2, 3, 1, 4, 5] rfl ?_
        exact bB_play_94 C M ih V n a0 x3 ((((6364136223846793005 : Int64) * x4) + (1442695040888963407 : Int64))) x6 x7 t5 h
      · refine z_aload_n C 2 dB_play_76 rfl rfl ?_
        refine z_aload_n C 2 dB_play_77 rfl rfl ?_
        refine z_getR C fl_B_39 dB_play_78 h (fun t6 h => ?_)
        refine z_iload C 0 dB_play_81 rfl ?_
        refine z_aald C rfl dB_play_83 h (fun t7 h => ?_)
        refine z_vPI (ci := 5) C M zRmP [va_rf t7] cv_B_142 rfl (by decide) (by decide) rfl rfl (Nat.zero_le _) dB_play_84 (fun b => fB_taskTurn V n b t7) h (fun b w1 e1 l D dA hl => mB_taskTurn hl e1) (fun t8 V n h => ?_)
        refine z_goto C 94 dB_play_87 (by decide) ?_
        refine z_sub [2, 3, 1, 4, 5] rfl ?_
        exact bB_play_94 C M ih V n a0 x3 ((((6364136223846793005 : Int64) * x4) + (1442695040888963407 : Int64))) x6 x7 t8 h
def fB_play (V : zV) (n : Nat) (a0 : Nat) (x1 : Int64) (x3 : Int32) : Option zR :=
    if x3 < (1 : Int32) then (
    zth "java/lang/IllegalArgumentException" V n) else (
    if x3 ≤ (2000 : Int32) then (
    fB_play_31 zF V n a0 x3 x1 (0 : Int32) (0 : Int32)) else (
    zth "java/lang/IllegalArgumentException" V n))
set_option maxHeartbeats 4000000 in
set_option maxRecDepth 100000 in
theorem bB_play {x : zX} {w : zR} (C : zC x prog_1_method_7_code "BarrierMarks" "play" 10 8 125 (some .int)) (M : zM x (zc w) (zs w)) : ∀ (V : zV) (n : Nat) (a0 : Nat) (x1 : Int64) (x3 : Int32), fB_play V n a0 x1 x3 = some w → zZ x 10 0 0 w V n 0 [(0, va_rf (some a0)), (1, .long x1), (3, .int x3)] [] := by
  intro V n a0 x1 x3 h
  unfold fB_play at h
  refine z_iload_n C 2 dB_play_0 rfl rfl ?_
  refine z_iconst (v := 1) C dB_play_1 (by decide) ?_
  refine z_icmp_lt C 12 dB_play_2 (by decide) h (fun h => ?_) (fun h => ?_)
  · obtain rfl := Option.some.inj h
    exact z_throwS C M th_B_146_87 (by decide) (by decide) (Nat.le_refl _) (Nat.le_refl _) dB_play_12 dB_play_15 dB_play_16 dB_play_18 dB_play_21 rfl
  · refine z_iload_n C 2 dB_play_5 rfl rfl ?_
    refine z_sipush (v := 2000) C dB_play_6 (by decide) ?_
    refine z_icmp_le C 22 dB_play_9 (by decide) h (fun h => ?_) (fun h => ?_)
    · refine z_lload_n C 1 dB_play_22 rfl rfl ?_
      refine z_lstore (lv' := [(4, .long x1), (0, va_rf (some a0)), (1, .long x1), (3, .int x3)]) C dB_play_23 (by decide) rfl ?_
      refine z_iconst (v := 0) C dB_play_25 (by decide) ?_
      refine z_istore (lv' := [(6, .int (0 : Int32)), (4, .long x1), (0, va_rf (some a0)), (1, .long x1), (3, .int x3)]) C dB_play_26 (by decide) rfl ?_
      refine z_iconst (v := 0) C dB_play_28 (by decide) ?_
      refine z_istore (lv' := [(7, .int (0 : Int32)), (6, .int (0 : Int32)), (4, .long x1), (0, va_rf (some a0)), (1, .long x1), (3, .int x3)]) C dB_play_29 (by decide) rfl ?_
      refine z_sub [3, 5, 2, 1, 0] rfl ?_
      exact bB_play_31 C M zF V n a0 x3 x1 (0 : Int32) (0 : Int32) h
    · obtain rfl := Option.some.inj h
      exact z_throwS C M th_B_146_87 (by decide) (by decide) (Nat.le_refl _) (Nat.le_refl _) dB_play_12 dB_play_15 dB_play_16 dB_play_18 dB_play_21 rfl
theorem mB_play {l : Launch} {D : va_G} {dA : Nat → ClassId} {V : zV} {n : Nat} (hl : l.stackTraces = false) {a0 : Nat} {x1 : Int64} {x3 : Int32} {w : zR} (h : fB_play V n a0 x1 x3 = some w) : z_Met l ⟨"BarrierMarks", "play", "(JI)I"⟩ prog_1_method_7_code 10 (some .int) 8 125 (zc w) (zs w) [.ref a0, .long x1, .int x3] D dA V n w := by exact z_ofZ hl (by decide) (Nat.le_of_ble_eq_true rfl) (fun x C M => bB_play C M V n a0 x1 x3 h)
/-! BarrierMarks.begunMarkAt(I)LBarrierMarks$Mark; -/
def fB_begunMarkAt (V : zV) (n : Nat) (a0 : Nat) (x1 : Int32) : Option zR :=
    (z_obj V (some a0) [5]).bind fun o => zcR (fB_markAt V n o.1 x1) fun t1 V n =>
    (zgI V t1 [3] 8).bind fun t2 =>
    if t2 = 0 then (
    zrR t1 V n) else (
    zth "java/lang/IllegalStateException" V n)
set_option maxHeartbeats 4000000 in
set_option maxRecDepth 100000 in
theorem bB_begunMarkAt {x : zX} {w : zR} (C : zC x prog_1_method_30_code "BarrierMarks" "begunMarkAt" 3 7 103 (some (.object "BarrierMarks$Mark"))) (M : zM x (zc w) (zs w)) : ∀ (V : zV) (n : Nat) (a0 : Nat) (x1 : Int32), fB_begunMarkAt V n a0 x1 = some w → zZ x 3 0 0 w V n 0 [(0, va_rf (some a0)), (1, .int x1)] [] := by
  intro V n a0 x1 h
  unfold fB_begunMarkAt at h
  refine z_aload_n C 0 dB_begunMarkAt_0 rfl rfl ?_
  refine z_iload_n C 1 dB_begunMarkAt_1 rfl rfl ?_
  refine z_vPR (ci := 5) C M zRmP [.int x1] cv_B_230 rfl (by decide) (by decide) rfl rfl (Nat.zero_le _) dB_begunMarkAt_2 (fun b => fB_markAt V n b x1) h (fun b w1 e1 l D dA hl => mB_markAt hl e1) (fun t1 V n h => ?_)
  refine z_astore_n (lv' := [(2, va_rf t1), (0, va_rf (some a0)), (1, .int x1)]) (i := 2) C dB_begunMarkAt_5 rfl (by decide) rfl ?_
  refine z_aload_n C 0 dB_begunMarkAt_6 rfl rfl ?_
  refine z_getI C fl_B_183 dB_begunMarkAt_7 h (fun t2 h => ?_)
  refine z_if_eq C 24 dB_begunMarkAt_10 (by decide) h (fun h => ?_) (fun h => ?_)
  · refine z_aload_n C 0 dB_begunMarkAt_24 rfl rfl ?_
    exact z_aret C M (Nat.zero_le _) (Nat.zero_le _) dB_begunMarkAt_25 h
  · obtain rfl := Option.some.inj h
    exact z_throwSW C M th_B_269_66 (by decide) (by decide) (Nat.le_refl _) (Nat.le_refl _) dB_begunMarkAt_13 dB_begunMarkAt_16 dB_begunMarkAt_17 dB_begunMarkAt_20 dB_begunMarkAt_23 rfl
theorem mB_begunMarkAt {l : Launch} {D : va_G} {dA : Nat → ClassId} {V : zV} {n : Nat} (hl : l.stackTraces = false) {a0 : Nat} {x1 : Int32} {w : zR} (h : fB_begunMarkAt V n a0 x1 = some w) : z_Met l ⟨"BarrierMarks", "begunMarkAt", "(I)LBarrierMarks$Mark;"⟩ prog_1_method_30_code 3 (some (.object "BarrierMarks$Mark")) 7 103 (zc w) (zs w) [.ref a0, .int x1] D dA V n w := by exact z_ofZ hl (by decide) (Nat.le_of_ble_eq_true rfl) (fun x C M => bB_begunMarkAt C M V n a0 x1 h)
/-! BarrierMarks.giveUp(I)I -/
def fB_giveUp (V : zV) (n : Nat) (a0 : Nat) (x1 : Int32) : Option zR :=
    (z_obj V (some a0) [5]).bind fun o => zcR (fB_begunMarkAt V n o.1 x1) fun t1 V n =>
    (z_obj V (some a0) [5]).bind fun o => zcV (fB_stopMark V n o.1 t1 (2 : Int32)) fun V n =>
    (zgI V t1 [3] 7).bind fun t2 =>
    zrI t2 V n
set_option maxHeartbeats 4000000 in
set_option maxRecDepth 100000 in
theorem bB_giveUp {x : zX} {w : zR} (C : zC x prog_1_method_8_code "BarrierMarks" "giveUp" 3 8 125 (some .int)) (M : zM x (zc w) (zs w)) : ∀ (V : zV) (n : Nat) (a0 : Nat) (x1 : Int32), fB_giveUp V n a0 x1 = some w → zZ x 3 0 0 w V n 0 [(0, va_rf (some a0)), (1, .int x1)] [] := by
  intro V n a0 x1 h
  unfold fB_giveUp at h
  refine z_aload_n C 0 dB_giveUp_0 rfl rfl ?_
  refine z_iload_n C 1 dB_giveUp_1 rfl rfl ?_
  refine z_vPR (ci := 5) C M zRmP [.int x1] cv_B_152 rfl (by decide) (by decide) rfl rfl (Nat.zero_le _) dB_giveUp_2 (fun b => fB_begunMarkAt V n b x1) h (fun b w1 e1 l D dA hl => mB_begunMarkAt hl e1) (fun t1 V n h => ?_)
  refine z_astore_n (lv' := [(2, va_rf t1), (0, va_rf (some a0)), (1, .int x1)]) (i := 2) C dB_giveUp_5 rfl (by decide) rfl ?_
  refine z_aload_n C 1 dB_giveUp_6 rfl rfl ?_
  refine z_aload_n C 0 dB_giveUp_7 rfl rfl ?_
  refine z_iconst (v := 2) C dB_giveUp_8 (by decide) ?_
  refine z_vPV (ci := 5) C M zRmP [va_rf t1, .int (2 : Int32)] cv_B_156 rfl (by decide) (by decide) rfl rfl (Nat.zero_le _) dB_giveUp_9 (fun b => fB_stopMark V n b t1 (2 : Int32)) h (fun b w1 e1 l D dA hl => mB_stopMark hl e1) (fun V n h => ?_)
  refine z_aload_n C 0 dB_giveUp_12 rfl rfl ?_
  refine z_getI C fl_B_160 dB_giveUp_13 h (fun t2 h => ?_)
  exact z_iret C M (Nat.zero_le _) (Nat.zero_le _) dB_giveUp_16 h
theorem mB_giveUp {l : Launch} {D : va_G} {dA : Nat → ClassId} {V : zV} {n : Nat} (hl : l.stackTraces = false) {a0 : Nat} {x1 : Int32} {w : zR} (h : fB_giveUp V n a0 x1 = some w) : z_Met l ⟨"BarrierMarks", "giveUp", "(I)I"⟩ prog_1_method_8_code 3 (some .int) 8 125 (zc w) (zs w) [.ref a0, .int x1] D dA V n w := by exact z_ofZ hl (by decide) (Nat.le_of_ble_eq_true rfl) (fun x C M => bB_giveUp C M V n a0 x1 h)
/-! BarrierMarks.fails(II)V -/
def fB_fails (V : zV) (n : Nat) (a0 : Nat) (x1 : Int32) (x2 : Int32) : Option zR :=
    (z_obj V (some a0) [5]).bind fun o => zcR (fB_taskAt V n o.1 x1) fun t1 V n =>
    (z_obj V (some a0) [5]).bind fun o => zcR (fB_begunMarkAt V n o.1 x2) fun t2 V n =>
    (zgR V t2 [3] 1).bind fun t3 =>
    (zaI V t3 2 x1).bind fun t4 =>
    if t4 = 0 then (
    (zgR V t2 [3] 2).bind fun t5 =>
    (zaI V t5 2 x1).bind fun t6 =>
    if t6 = 0 then (
    (zgR V t2 [3] 2).bind fun t7 =>
    (zsZ V t7 2 x1 (1 : Int32)).bind fun V =>
    zrV V n) else (
    zth "java/lang/IllegalStateException" V n)) else (
    zth "java/lang/IllegalStateException" V n)
set_option maxHeartbeats 4000000 in
set_option maxRecDepth 100000 in
theorem bB_fails {x : zX} {w : zR} (C : zC x prog_1_method_9_code "BarrierMarks" "fails" 4 8 125 none) (M : zM x (zc w) (zs w)) : ∀ (V : zV) (n : Nat) (a0 : Nat) (x1 : Int32) (x2 : Int32), fB_fails V n a0 x1 x2 = some w → zZ x 4 0 0 w V n 0 [(0, va_rf (some a0)), (1, .int x1), (2, .int x2)] [] := by
  intro V n a0 x1 x2 h
  unfold fB_fails at h
  refine z_aload_n C 0 dB_fails_0 rfl rfl ?_
  refine z_iload_n C 1 dB_fails_1 rfl rfl ?_
  refine z_vPR (ci := 5) C M zRmP [.int x1] cv_B_54 rfl (by decide) (by decide) rfl rfl (Nat.zero_le _) dB_fails_2 (fun b => fB_taskAt V n b x1) h (fun b w1 e1 l D dA hl => mB_taskAt hl e1) (fun t1 V n h => ?_)
  refine z_pop C dB_fails_5 (zrfcat _) ?_
  refine z_aload_n C 0 dB_fails_6 rfl rfl ?_
  refine z_iload_n C 2 dB_fails_7 rfl rfl ?_
  refine z_vPR (ci := 5) C M zRmP [.int x2] cv_B_152 rfl (by decide) (by decide) rfl rfl (Nat.zero_le _) dB_fails_8 (fun b => fB_begunMarkAt V n b x2) h (fun b w1 e1 l D dA hl => mB_begunMarkAt hl e1) (fun t2 V n h => ?_)
  refine z_astore_n (lv' := [(3, va_rf t2), (0, va_rf (some a0)), (1, .int x1), (2, .int x2)]) (i := 3) C dB_fails_11 rfl (by decide) rfl ?_
  refine z_aload_n C 0 dB_fails_12 rfl rfl ?_
  refine z_getR C fl_B_163 dB_fails_13 h (fun t3 h => ?_)
  refine z_iload_n C 2 dB_fails_16 rfl rfl ?_
  refine z_zald C rfl dB_fails_17 h (fun t4 h => ?_)
  refine z_if_ne C 30 dB_fails_18 (by decide) h (fun h => ?_) (fun h => ?_)
  · obtain rfl := Option.some.inj h
    exact z_throwS C M th_B_170_66 (by decide) (by decide) (Nat.le_refl _) (Nat.le_refl _) dB_fails_30 dB_fails_33 dB_fails_34 dB_fails_36 dB_fails_39 rfl
  · refine z_aload_n C 0 dB_fails_21 rfl rfl ?_
    refine z_getR C fl_B_167 dB_fails_22 h (fun t5 h => ?_)
    refine z_iload_n C 2 dB_fails_25 rfl rfl ?_
    refine z_zald C rfl dB_fails_26 h (fun t6 h => ?_)
    refine z_if_eq C 40 dB_fails_27 (by decide) h (fun h => ?_) (fun h => ?_)
    · refine z_aload_n C 0 dB_fails_40 rfl rfl ?_
      refine z_getR C fl_B_167 dB_fails_41 h (fun t7 h => ?_)
      refine z_iload_n C 2 dB_fails_44 rfl rfl ?_
      refine z_iconst (v := 1) C dB_fails_45 (by decide) ?_
      refine z_zast C rfl dB_fails_46 h (fun V h => ?_)
      exact z_vret C M (Nat.zero_le _) (Nat.zero_le _) dB_fails_47 h
    · obtain rfl := Option.some.inj h
      exact z_throwS C M th_B_170_66 (by decide) (by decide) (Nat.le_refl _) (Nat.le_refl _) dB_fails_30 dB_fails_33 dB_fails_34 dB_fails_36 dB_fails_39 rfl
theorem mB_fails {l : Launch} {D : va_G} {dA : Nat → ClassId} {V : zV} {n : Nat} (hl : l.stackTraces = false) {a0 : Nat} {x1 : Int32} {x2 : Int32} {w : zR} (h : fB_fails V n a0 x1 x2 = some w) : z_Met l ⟨"BarrierMarks", "fails", "(II)V"⟩ prog_1_method_9_code 4 none 8 125 (zc w) (zs w) [.ref a0, .int x1, .int x2] D dA V n w := by exact z_ofZ hl (by decide) (Nat.le_of_ble_eq_true rfl) (fun x C M => bB_fails C M V n a0 x1 x2 h)
/-! BarrierMarks.again(II)I -/
def fB_again (V : zV) (n : Nat) (a0 : Nat) (x1 : Int32) (x2 : Int32) : Option zR :=
    (z_obj V (some a0) [5]).bind fun o => zcR (fB_taskAt V n o.1 x2) fun t1 V n =>
    (z_obj V (some a0) [5]).bind fun o => zcR (fB_begunMarkAt V n o.1 x1) fun t2 V n =>
    (zgR V t2 [3] 1).bind fun t3 =>
    (zaI V t3 2 x2).bind fun t4 =>
    if t4 = 0 then (
    zth "java/lang/IllegalStateException" V n) else (
    (zgR V (some a0) [5] 3).bind fun t5 =>
    (zgI V t5 [0] 3).bind fun t6 =>
    if t6 < (200 : Int32) then (
    (zgR V (some a0) [5] 3).bind fun t7 =>
    (z_obj V t7 [0]).bind fun o => zcV (fK_add V n o.1 x1 x2) fun V n =>
    (zgR V (some a0) [5] 3).bind fun t8 =>
    (zgI V t8 [0] 3).bind fun t9 =>
    zrI t9 V n) else (
    zth "java/lang/IllegalStateException" V n))
set_option maxHeartbeats 4000000 in
set_option maxRecDepth 100000 in
theorem bB_again {x : zX} {w : zR} (C : zC x prog_1_method_10_code "BarrierMarks" "again" 4 8 125 (some .int)) (M : zM x (zc w) (zs w)) : ∀ (V : zV) (n : Nat) (a0 : Nat) (x1 : Int32) (x2 : Int32), fB_again V n a0 x1 x2 = some w → zZ x 4 0 0 w V n 0 [(0, va_rf (some a0)), (1, .int x1), (2, .int x2)] [] := by
  intro V n a0 x1 x2 h
  unfold fB_again at h
  refine z_aload_n C 0 dB_again_0 rfl rfl ?_
  refine z_iload_n C 2 dB_again_1 rfl rfl ?_
  refine z_vPR (ci := 5) C M zRmP [.int x2] cv_B_54 rfl (by decide) (by decide) rfl rfl (Nat.zero_le _) dB_again_2 (fun b => fB_taskAt V n b x2) h (fun b w1 e1 l D dA hl => mB_taskAt hl e1) (fun t1 V n h => ?_)
  refine z_pop C dB_again_5 (zrfcat _) ?_
  refine z_aload_n C 0 dB_again_6 rfl rfl ?_
  refine z_iload_n C 1 dB_again_7 rfl rfl ?_
  refine z_vPR (ci := 5) C M zRmP [.int x1] cv_B_152 rfl (by decide) (by decide) rfl rfl (Nat.zero_le _) dB_again_8 (fun b => fB_begunMarkAt V n b x1) h (fun b w1 e1 l D dA hl => mB_begunMarkAt hl e1) (fun t2 V n h => ?_)
  refine z_astore_n (lv' := [(3, va_rf t2), (0, va_rf (some a0)), (1, .int x1), (2, .int x2)]) (i := 3) C dB_again_11 rfl (by decide) rfl ?_
  refine z_aload_n C 0 dB_again_12 rfl rfl ?_
  refine z_getR C fl_B_163 dB_again_13 h (fun t3 h => ?_)
  refine z_iload_n C 3 dB_again_16 rfl rfl ?_
  refine z_zald C rfl dB_again_17 h (fun t4 h => ?_)
  refine z_if_eq C 34 dB_again_18 (by decide) h (fun h => ?_) (fun h => ?_)
  · obtain rfl := Option.some.inj h
    exact z_throwS C M th_B_175_66 (by decide) (by decide) (Nat.le_refl _) (Nat.le_refl _) dB_again_34 dB_again_37 dB_again_38 dB_again_40 dB_again_43 rfl
  · refine z_aload_n C 1 dB_again_21 rfl rfl ?_
    refine z_getR C fl_B_24 dB_again_22 h (fun t5 h => ?_)
    refine z_getI C fl_B_172 dB_again_25 h (fun t6 h => ?_)
    refine z_sipush (v := 200) C dB_again_28 (by decide) ?_
    refine z_icmp_lt C 44 dB_again_31 (by decide) h (fun h => ?_) (fun h => ?_)
    · refine z_aload_n C 1 dB_again_44 rfl rfl ?_
      refine z_getR C fl_B_24 dB_again_45 h (fun t7 h => ?_)
      refine z_iload_n C 2 dB_again_48 rfl rfl ?_
      refine z_iload_n C 3 dB_again_49 rfl rfl ?_
      refine z_vPV (ci := 0) C M zRmP [.int x1, .int x2] cv_B_177 rfl (by decide) (by decide) rfl rfl (Nat.zero_le _) dB_again_50 (fun b => fK_add V n b x1 x2) h (fun b w1 e1 l D dA hl => mK_add hl e1) (fun V n h => ?_)
      refine z_aload_n C 1 dB_again_53 rfl rfl ?_
      refine z_getR C fl_B_24 dB_again_54 h (fun t8 h => ?_)
      refine z_getI C fl_B_172 dB_again_57 h (fun t9 h => ?_)
      exact z_iret C M (Nat.zero_le _) (Nat.zero_le _) dB_again_60 h
    · obtain rfl := Option.some.inj h
      exact z_throwS C M th_B_175_66 (by decide) (by decide) (Nat.le_refl _) (Nat.le_refl _) dB_again_34 dB_again_37 dB_again_38 dB_again_40 dB_again_43 rfl
theorem mB_again {l : Launch} {D : va_G} {dA : Nat → ClassId} {V : zV} {n : Nat} (hl : l.stackTraces = false) {a0 : Nat} {x1 : Int32} {x2 : Int32} {w : zR} (h : fB_again V n a0 x1 x2 = some w) : z_Met l ⟨"BarrierMarks", "again", "(II)I"⟩ prog_1_method_10_code 4 (some .int) 8 125 (zc w) (zs w) [.ref a0, .int x1, .int x2] D dA V n w := by exact z_ofZ hl (by decide) (Nat.le_of_ble_eq_true rfl) (fun x C M => bB_again C M V n a0 x1 x2 h)
/-! BarrierMarks.completeMarkAt(I)LBarrierMarks$Mark; -/
def fB_completeMarkAt (V : zV) (n : Nat) (a0 : Nat) (x1 : Int32) : Option zR :=
    (z_obj V (some a0) [5]).bind fun o => zcR (fB_markAt V n o.1 x1) fun t1 V n =>
    (zgI V t1 [3] 8).bind fun t2 =>
    if t2 = (1 : Int32) then (
    zrR t1 V n) else (
    zth "java/lang/IllegalStateException" V n)
set_option maxHeartbeats 4000000 in
set_option maxRecDepth 100000 in
theorem bB_completeMarkAt {x : zX} {w : zR} (C : zC x prog_1_method_31_code "BarrierMarks" "completeMarkAt" 3 7 103 (some (.object "BarrierMarks$Mark"))) (M : zM x (zc w) (zs w)) : ∀ (V : zV) (n : Nat) (a0 : Nat) (x1 : Int32), fB_completeMarkAt V n a0 x1 = some w → zZ x 3 0 0 w V n 0 [(0, va_rf (some a0)), (1, .int x1)] [] := by
  intro V n a0 x1 h
  unfold fB_completeMarkAt at h
  refine z_aload_n C 0 dB_completeMarkAt_0 rfl rfl ?_
  refine z_iload_n C 1 dB_completeMarkAt_1 rfl rfl ?_
  refine z_vPR (ci := 5) C M zRmP [.int x1] cv_B_230 rfl (by decide) (by decide) rfl rfl (Nat.zero_le _) dB_completeMarkAt_2 (fun b => fB_markAt V n b x1) h (fun b w1 e1 l D dA hl => mB_markAt hl e1) (fun t1 V n h => ?_)
  refine z_astore_n (lv' := [(2, va_rf t1), (0, va_rf (some a0)), (1, .int x1)]) (i := 2) C dB_completeMarkAt_5 rfl (by decide) rfl ?_
  refine z_aload_n C 0 dB_completeMarkAt_6 rfl rfl ?_
  refine z_getI C fl_B_183 dB_completeMarkAt_7 h (fun t2 h => ?_)
  refine z_iconst (v := 1) C dB_completeMarkAt_10 (by decide) ?_
  refine z_icmp_eq C 25 dB_completeMarkAt_11 (by decide) h (fun h => ?_) (fun h => ?_)
  · refine z_aload_n C 0 dB_completeMarkAt_25 rfl rfl ?_
    exact z_aret C M (Nat.zero_le _) (Nat.zero_le _) dB_completeMarkAt_26 h
  · obtain rfl := Option.some.inj h
    exact z_throwSW C M th_B_271_66 (by decide) (by decide) (Nat.le_refl _) (Nat.le_refl _) dB_completeMarkAt_14 dB_completeMarkAt_17 dB_completeMarkAt_18 dB_completeMarkAt_21 dB_completeMarkAt_24 rfl
theorem mB_completeMarkAt {l : Launch} {D : va_G} {dA : Nat → ClassId} {V : zV} {n : Nat} (hl : l.stackTraces = false) {a0 : Nat} {x1 : Int32} {w : zR} (h : fB_completeMarkAt V n a0 x1 = some w) : z_Met l ⟨"BarrierMarks", "completeMarkAt", "(I)LBarrierMarks$Mark;"⟩ prog_1_method_31_code 3 (some (.object "BarrierMarks$Mark")) 7 103 (zc w) (zs w) [.ref a0, .int x1] D dA V n w := by exact z_ofZ hl (by decide) (Nat.le_of_ble_eq_true rfl) (fun x C M => bB_completeMarkAt C M V n a0 x1 h)
/-! BarrierMarks.hasEnded(I)Z -/
def fB_hasEnded_29 (V : zV) (n : Nat) : Option zR :=
    zrZ (0 : Int32) V n
set_option maxHeartbeats 4000000 in
set_option maxRecDepth 100000 in
theorem bB_hasEnded_29 {x : zX} {w : zR} (C : zC x prog_1_method_35_code "BarrierMarks" "hasEnded" 2 0 0 (some .boolean)) (M : zM x (zc w) (zs w)) : ∀ (V : zV) (n : Nat), fB_hasEnded_29 V n = some w → zZ x 2 0 0 w V n 29 [] [] := by
  intro V n h
  unfold fB_hasEnded_29 at h
  refine z_iconst (v := 0) C dB_hasEnded_29 (by decide) ?_
  exact z_zret C M (Nat.zero_le _) (Nat.zero_le _) dB_hasEnded_30 h
def fB_hasEnded (V : zV) (n : Nat) (a0 : Nat) (x1 : Int32) : Option zR :=
    if x1 < 0 then (
    fB_hasEnded_29 V n) else (
    (zgR V (some a0) [5] 0).bind fun t1 =>
    (zalen V t1 3).bind fun t2 =>
    if t2 ≤ x1 then (
    fB_hasEnded_29 V n) else (
    (zgR V (some a0) [5] 0).bind fun t3 =>
    (zaR V t3 3 x1).bind fun t4 =>
    (zgI V t4 [4] 8).bind fun t5 =>
    if t5 = 0 then (
    fB_hasEnded_29 V n) else (
    zrZ (1 : Int32) V n)))
set_option maxHeartbeats 4000000 in
set_option maxRecDepth 100000 in
theorem bB_hasEnded {x : zX} {w : zR} (C : zC x prog_1_method_35_code "BarrierMarks" "hasEnded" 2 0 0 (some .boolean)) (M : zM x (zc w) (zs w)) : ∀ (V : zV) (n : Nat) (a0 : Nat) (x1 : Int32), fB_hasEnded V n a0 x1 = some w → zZ x 2 0 0 w V n 0 [(0, va_rf (some a0)), (1, .int x1)] [] := by
  intro V n a0 x1 h
  unfold fB_hasEnded at h
  refine z_iload_n C 1 dB_hasEnded_0 rfl rfl ?_
  refine z_if_lt C 29 dB_hasEnded_1 (by decide) h (fun h => ?_) (fun h => ?_)
  · refine z_sub [] rfl ?_
    exact bB_hasEnded_29 C M V n h
  · refine z_iload_n C 1 dB_hasEnded_4 rfl rfl ?_
    refine z_aload_n C 0 dB_hasEnded_5 rfl rfl ?_
    refine z_getR C fl_B_39 dB_hasEnded_6 h (fun t1 h => ?_)
    refine z_alen C rfl dB_hasEnded_9 h (fun t2 h => ?_)
    refine z_icmp_ge C 29 dB_hasEnded_10 (by decide) h (fun h => ?_) (fun h => ?_)
    · refine z_sub [] rfl ?_
      exact bB_hasEnded_29 C M V n h
    · refine z_aload_n C 0 dB_hasEnded_13 rfl rfl ?_
      refine z_getR C fl_B_39 dB_hasEnded_14 h (fun t3 h => ?_)
      refine z_iload_n C 1 dB_hasEnded_17 rfl rfl ?_
      refine z_aald C rfl dB_hasEnded_18 h (fun t4 h => ?_)
      refine z_getI C fl_B_131 dB_hasEnded_19 h (fun t5 h => ?_)
      refine z_if_eq C 29 dB_hasEnded_22 (by decide) h (fun h => ?_) (fun h => ?_)
      · refine z_sub [] rfl ?_
        exact bB_hasEnded_29 C M V n h
      · refine z_iconst (v := 1) C dB_hasEnded_25 (by decide) ?_
        refine z_goto C 30 dB_hasEnded_26 (by decide) ?_
        exact z_zret C M (Nat.zero_le _) (Nat.zero_le _) dB_hasEnded_30 h
theorem mB_hasEnded {l : Launch} {D : va_G} {dA : Nat → ClassId} {V : zV} {n : Nat} (hl : l.stackTraces = false) {a0 : Nat} {x1 : Int32} {w : zR} (h : fB_hasEnded V n a0 x1 = some w) : z_Met l ⟨"BarrierMarks", "hasEnded", "(I)Z"⟩ prog_1_method_35_code 2 (some .boolean) 0 0 (zc w) (zs w) [.ref a0, .int x1] D dA V n w := by exact z_ofZ hl (by decide) (Nat.le_of_ble_eq_true rfl) (fun x C M => bB_hasEnded C M V n a0 x1 h)
/-! BarrierMarks.restore(I)I -/
def fB_restore_39 (K8 : zV → Nat → Nat → Int32 → Option Nat → Int32 → Option zR) (V : zV) (n : Nat) (a0 : Nat) (x1 : Int32) (x2 : Option Nat) (x3 : Int32) : Option zR :=
    K8 V n a0 x1 x2 (x3 + 1)
set_option maxHeartbeats 4000000 in
set_option maxRecDepth 100000 in
theorem bB_restore_39 {x : zX} {w : zR} {K8 : zV → Nat → Nat → Int32 → Option Nat → Int32 → Option zR} (C : zC x prog_1_method_11_code "BarrierMarks" "restore" 6 8 125 (some .int)) (M : zM x (zc w) (zs w)) (hK8 : ∀ (V : zV) (n : Nat) (a0 : Nat) (x1 : Int32) (x2 : Option Nat) (x3 : Int32), K8 V n a0 x1 x2 x3 = some w → zZ x 6 0 0 w V n 8 [(0, va_rf (some a0)), (1, .int x1), (2, va_rf x2), (3, .int x3)] []) : ∀ (V : zV) (n : Nat) (a0 : Nat) (x1 : Int32) (x2 : Option Nat) (x3 : Int32), fB_restore_39 K8 V n a0 x1 x2 x3 = some w → zZ x 6 0 0 w V n 39 [(0, va_rf (some a0)), (1, .int x1), (2, va_rf x2), (3, .int x3)] [] := by
  intro V n a0 x1 x2 x3 h
  unfold fB_restore_39 at h
  refine z_iinc (lv' := [(3, .int (x3 + 1)), (0, va_rf (some a0)), (1, .int x1), (2, va_rf x2)]) C 3 dB_restore_39 rfl rfl (by decide) (by first | rfl | simp [zrfcat]) ?_
  refine z_goto C 8 dB_restore_42 (by decide) ?_
  refine z_sub [1, 2, 3, 0] rfl ?_
  exact hK8 V n a0 x1 x2 (x3 + 1) h
def fB_restore_145 (K84 : zV → Nat → Nat → Int32 → Int32 → Int32 → Option zR) (V : zV) (n : Nat) (a0 : Nat) (x1 : Int32) (x3 : Int32) (x4 : Int32) (x5 : Option Nat) (s0 : Option Nat) (s1 : Int32) : Option zR :=
    (zpZ V s0 [1, 2] 3 s1).bind fun V =>
    (z_obj V x5 [1, 2]).bind fun o => zdI (if o.2.1 = 1 then fS_left V n o.1  else fL_left V n o.1 ) fun t1 V n =>
    K84 V n a0 x1 (x3 + t1) (x4 + 1)
set_option maxHeartbeats 4000000 in
set_option maxRecDepth 100000 in
theorem bB_restore_145 {x : zX} {w : zR} {K84 : zV → Nat → Nat → Int32 → Int32 → Int32 → Option zR} (C : zC x prog_1_method_11_code "BarrierMarks" "restore" 6 8 125 (some .int)) (M : zM x (zc w) (zs w)) (hK84 : ∀ (V : zV) (n : Nat) (a0 : Nat) (x1 : Int32) (x3 : Int32) (x4 : Int32), K84 V n a0 x1 x3 x4 = some w → zZ x 6 0 0 w V n 84 [(0, va_rf (some a0)), (1, .int x1), (3, .int x3), (4, .int x4)] []) : ∀ (V : zV) (n : Nat) (a0 : Nat) (x1 : Int32) (x3 : Int32) (x4 : Int32) (x5 : Option Nat) (s0 : Option Nat) (s1 : Int32), fB_restore_145 K84 V n a0 x1 x3 x4 x5 s0 s1 = some w → zZ x 6 0 0 w V n 145 [(0, va_rf (some a0)), (1, .int x1), (3, .int x3), (4, .int x4), (5, va_rf x5)] [.int s1, va_rf s0] := by
  intro V n a0 x1 x3 x4 x5 s0 s1 h
  unfold fB_restore_145 at h
  refine z_putZ C pf_B_208 (fun h => absurd h (by decide)) dB_restore_145 h (fun V h => ?_)
  refine z_iload_n C 2 dB_restore_148 rfl rfl ?_
  refine z_aload C 4 dB_restore_149 rfl ?_
  refine z_aPI C M ⟨Nat.zero_le _, Nat.zero_le _⟩ [] ca_B_209_S ca_B_209_L rfl rfl (by decide) (by decide) (by decide) (by decide) rfl rfl (by first | decide | (simp [zrfcat, zicat, zlcat]; done)) dB_restore_151 (fun b => fS_left V n b ) (fun b => fL_left V n b ) h (fun b w1 e1 l D dA hl => mS_left hl e1) (fun b w1 e1 l D dA hl => mL_left hl e1) (fun t1 V n h => ?_)
  refine z_iadd C dB_restore_154 ?_
  refine z_istore_n (lv' := [(3, .int (x3 + t1)), (0, va_rf (some a0)), (1, .int x1), (4, .int x4), (5, va_rf x5)]) (i := 3) C dB_restore_155 rfl (by decide) rfl ?_
  refine z_iinc (lv' := [(4, .int (x4 + 1)), (3, .int (x3 + t1)), (0, va_rf (some a0)), (1, .int x1), (5, va_rf x5)]) C 3 dB_restore_156 rfl rfl (by decide) rfl ?_
  refine z_goto C 84 dB_restore_159 (by decide) ?_
  refine z_sub [2, 3, 1, 0] rfl ?_
  exact hK84 V n a0 x1 (x3 + t1) (x4 + 1) h
def fB_restore_140 (K84 : zV → Nat → Nat → Int32 → Int32 → Int32 → Option zR) (V : zV) (n : Nat) (a0 : Nat) (x1 : Int32) (x3 : Int32) (x4 : Int32) (x5 : Option Nat) (s0 : Option Nat) : Option zR :=
    fB_restore_145 K84 V n a0 x1 x3 x4 x5 s0 (1 : Int32)
set_option maxHeartbeats 4000000 in
set_option maxRecDepth 100000 in
theorem bB_restore_140 {x : zX} {w : zR} {K84 : zV → Nat → Nat → Int32 → Int32 → Int32 → Option zR} (C : zC x prog_1_method_11_code "BarrierMarks" "restore" 6 8 125 (some .int)) (M : zM x (zc w) (zs w)) (hK84 : ∀ (V : zV) (n : Nat) (a0 : Nat) (x1 : Int32) (x3 : Int32) (x4 : Int32), K84 V n a0 x1 x3 x4 = some w → zZ x 6 0 0 w V n 84 [(0, va_rf (some a0)), (1, .int x1), (3, .int x3), (4, .int x4)] []) : ∀ (V : zV) (n : Nat) (a0 : Nat) (x1 : Int32) (x3 : Int32) (x4 : Int32) (x5 : Option Nat) (s0 : Option Nat), fB_restore_140 K84 V n a0 x1 x3 x4 x5 s0 = some w → zZ x 6 0 0 w V n 140 [(0, va_rf (some a0)), (1, .int x1), (3, .int x3), (4, .int x4), (5, va_rf x5)] [va_rf s0] := by
  intro V n a0 x1 x3 x4 x5 s0 h
  unfold fB_restore_140 at h
  refine z_iconst (v := 1) C dB_restore_140 (by decide) ?_
  refine z_goto C 145 dB_restore_141 (by decide) ?_
  exact bB_restore_145 C M hK84 V n a0 x1 x3 x4 x5 s0 (1 : Int32) h
def fB_restore_84 : Nat → zV → Nat → Nat → Int32 → Int32 → Int32 → Option zR
  | 0 => fun _ _ _ _ _ _ => none
  | f9 + 1 => fun V n a0 x1 x3 x4 =>
    (zgI V (some a0) [5] 6).bind fun t1 =>
    if t1 ≤ x4 then (
    zrI x3 V n) else (
    (zgR V (some a0) [5] 1).bind fun t2 =>
    (zaR V t2 4 x4).bind fun t3 =>
    (z_obj V t3 [1, 2]).bind fun o => zdV (if o.2.1 = 1 then fS_goBack V n o.1 x1 else fL_goBack V n o.1 x1) fun V n =>
    (zpI V t3 [1, 2] 2 (-1 : Int32)).bind fun V =>
    (zgI V t3 [1, 2] 0).bind fun t4 =>
    (z_obj V (some a0) [5]).bind fun o => zcI (fB_hasEnded V n o.1 t4) fun t5 V n =>
    if t5 = 0 then (
    (zgI V t3 [1, 2] 1).bind fun t6 =>
    (z_obj V (some a0) [5]).bind fun o => zcI (fB_hasEnded V n o.1 t6) fun t7 V n =>
    if t7 = 0 then (
    fB_restore_145 (fB_restore_84 f9) V n a0 x1 x3 x4 t3 t3 (0 : Int32)) else (
    fB_restore_140 (fB_restore_84 f9) V n a0 x1 x3 x4 t3 t3)) else (
    fB_restore_140 (fB_restore_84 f9) V n a0 x1 x3 x4 t3 t3))
set_option maxHeartbeats 4000000 in
set_option maxRecDepth 100000 in
theorem bB_restore_84 {x : zX} {w : zR} (C : zC x prog_1_method_11_code "BarrierMarks" "restore" 6 8 125 (some .int)) (M : zM x (zc w) (zs w)) : ∀ (f9 : Nat) (V : zV) (n : Nat) (a0 : Nat) (x1 : Int32) (x3 : Int32) (x4 : Int32), fB_restore_84 f9 V n a0 x1 x3 x4 = some w → zZ x 6 0 0 w V n 84 [(0, va_rf (some a0)), (1, .int x1), (3, .int x3), (4, .int x4)] [] := by
  intro f9
  induction f9 with
  | zero =>
    intro V n a0 x1 x3 x4 h
    cases h
  | succ f9 ih =>
    intro V n a0 x1 x3 x4 h
    unfold fB_restore_84 at h
    refine z_iload C 3 dB_restore_84 rfl ?_
    refine z_aload_n C 0 dB_restore_86 rfl rfl ?_
    refine z_getI C fl_B_62 dB_restore_87 h (fun t1 h => ?_)
    refine z_icmp_ge C 162 dB_restore_90 (by decide) h (fun h => ?_) (fun h => ?_)
    · refine z_iload_n C 2 dB_restore_162 rfl rfl ?_
      exact z_iret C M (Nat.zero_le _) (Nat.zero_le _) dB_restore_163 h
    · refine z_aload_n C 0 dB_restore_93 rfl rfl ?_
      refine z_getR C fl_B_11 dB_restore_94 h (fun t2 h => ?_)
      refine z_iload C 3 dB_restore_97 rfl ?_
      refine z_aald C rfl dB_restore_99 h (fun t3 h => ?_)
      refine z_astore (lv' := [(5, va_rf t3), (0, va_rf (some a0)), (1, .int x1), (3, .int x3), (4, .int x4)]) C dB_restore_100 (by decide) rfl ?_
      refine z_aload C 0 dB_restore_102 rfl ?_
      refine z_iload_n C 2 dB_restore_104 rfl rfl ?_
      refine z_aPV C M ⟨Nat.zero_le _, Nat.zero_le _⟩ [.int x1] ca_B_193_S ca_B_193_L rfl rfl (by decide) (by decide) (by decide) (by decide) rfl rfl (Nat.zero_le _) dB_restore_105 (fun b => fS_goBack V n b x1) (fun b => fL_goBack V n b x1) h (fun b w1 e1 l D dA hl => mS_goBack hl e1) (fun b w1 e1 l D dA hl => mL_goBack hl e1) (fun V n h => ?_)
      refine z_aload C 0 dB_restore_108 rfl ?_
      refine z_iconst (v := (-1)) C dB_restore_110 (by decide) ?_
      refine z_putI C pf_B_195 (fun h => absurd h (by decide)) dB_restore_111 h (fun V h => ?_)
      refine z_aload C 0 dB_restore_114 rfl ?_
      refine z_aload_n C 1 dB_restore_116 rfl rfl ?_
      refine z_aload C 0 dB_restore_117 rfl ?_
      refine z_getI C fl_B_198 dB_restore_119 h (fun t4 h => ?_)
      refine z_vPI (ci := 5) C M zRmP [.int t4] cv_B_201 rfl (by decide) (by decide) rfl rfl (by first | decide | (simp [zrfcat, zicat, zlcat]; done)) dB_restore_122 (fun b => fB_hasEnded V n b t4) h (fun b w1 e1 l D dA hl => mB_hasEnded hl e1) (fun t5 V n h => ?_)
      refine z_if_ne C 140 dB_restore_125 (by decide) h (fun h => ?_) (fun h => ?_)
      · refine z_sub [1, 2, 3, 4, 0] rfl ?_
        exact bB_restore_140 C M ih V n a0 x1 x3 x4 t3 t3 h
      · refine z_aload_n C 1 dB_restore_128 rfl rfl ?_
        refine z_aload C 0 dB_restore_129 rfl ?_
        refine z_getI C fl_B_205 dB_restore_131 h (fun t6 h => ?_)
        refine z_vPI (ci := 5) C M zRmP [.int t6] cv_B_201 rfl (by decide) (by decide) rfl rfl (by first | decide | (simp [zrfcat, zicat, zlcat]; done)) dB_restore_134 (fun b => fB_hasEnded V n b t6) h (fun b w1 e1 l D dA hl => mB_hasEnded hl e1) (fun t7 V n h => ?_)
        refine z_if_eq C 144 dB_restore_137 (by decide) h (fun h => ?_) (fun h => ?_)
        · refine z_iconst (v := 0) C dB_restore_144 (by decide) ?_
          refine z_sub [1, 2, 3, 4, 0] rfl ?_
          exact bB_restore_145 C M ih V n a0 x1 x3 x4 t3 t3 (0 : Int32) h
        · refine z_sub [1, 2, 3, 4, 0] rfl ?_
          exact bB_restore_140 C M ih V n a0 x1 x3 x4 t3 t3 h
def fB_restore_54 : Nat → zV → Nat → Nat → Int32 → Option Nat → Int32 → Option zR
  | 0 => fun _ _ _ _ _ _ => none
  | f9 + 1 => fun V n a0 x1 x2 x3 =>
    (zgR V (some a0) [5] 0).bind fun t1 =>
    (zalen V t1 3).bind fun t2 =>
    if t2 ≤ x3 then (
    fB_restore_84 zF V n a0 x1 (0 : Int32) (0 : Int32)) else (
    (zgR V (some a0) [5] 0).bind fun t3 =>
    (zaR V t3 3 x3).bind fun t4 =>
    (z_obj V t4 [4]).bind fun o => zcV (fT_goBack V n o.1 x2) fun V n =>
    (fB_restore_54 f9) V n a0 x1 x2 (x3 + 1))
set_option maxHeartbeats 4000000 in
set_option maxRecDepth 100000 in
theorem bB_restore_54 {x : zX} {w : zR} (C : zC x prog_1_method_11_code "BarrierMarks" "restore" 6 8 125 (some .int)) (M : zM x (zc w) (zs w)) : ∀ (f9 : Nat) (V : zV) (n : Nat) (a0 : Nat) (x1 : Int32) (x2 : Option Nat) (x3 : Int32), fB_restore_54 f9 V n a0 x1 x2 x3 = some w → zZ x 6 0 0 w V n 54 [(0, va_rf (some a0)), (1, .int x1), (2, va_rf x2), (3, .int x3)] [] := by
  intro f9
  induction f9 with
  | zero =>
    intro V n a0 x1 x2 x3 h
    cases h
  | succ f9 ih =>
    intro V n a0 x1 x2 x3 h
    unfold fB_restore_54 at h
    refine z_iload_n C 3 dB_restore_54 rfl rfl ?_
    refine z_aload_n C 0 dB_restore_55 rfl rfl ?_
    refine z_getR C fl_B_39 dB_restore_56 h (fun t1 h => ?_)
    refine z_alen C rfl dB_restore_59 h (fun t2 h => ?_)
    refine z_icmp_ge C 79 dB_restore_60 (by decide) h (fun h => ?_) (fun h => ?_)
    · refine z_iconst (v := 0) C dB_restore_79 (by decide) ?_
      refine z_istore_n (lv' := [(3, .int (0 : Int32)), (0, va_rf (some a0)), (1, .int x1), (2, va_rf x2)]) (i := 3) C dB_restore_80 rfl (by decide) (by first | rfl | simp [zrfcat]) ?_
      refine z_iconst (v := 0) C dB_restore_81 (by decide) ?_
      refine z_istore (lv' := [(4, .int (0 : Int32)), (3, .int (0 : Int32)), (0, va_rf (some a0)), (1, .int x1), (2, va_rf x2)]) C dB_restore_82 (by decide) rfl ?_
      refine z_sub [2, 3, 1, 0] rfl ?_
      exact bB_restore_84 C M zF V n a0 x1 (0 : Int32) (0 : Int32) h
    · refine z_aload_n C 0 dB_restore_63 rfl rfl ?_
      refine z_getR C fl_B_39 dB_restore_64 h (fun t3 h => ?_)
      refine z_iload_n C 3 dB_restore_67 rfl rfl ?_
      refine z_aald C rfl dB_restore_68 h (fun t4 h => ?_)
      refine z_aload_n C 2 dB_restore_69 rfl rfl ?_
      refine z_vPV (ci := 4) C M zRmP [va_rf x2] cv_B_189 rfl (by decide) (by decide) rfl rfl (Nat.zero_le _) dB_restore_70 (fun b => fT_goBack V n b x2) h (fun b w1 e1 l D dA hl => mT_goBack hl e1) (fun V n h => ?_)
      refine z_iinc (lv' := [(3, .int (x3 + 1)), (0, va_rf (some a0)), (1, .int x1), (2, va_rf x2)]) C 3 dB_restore_73 rfl rfl (by decide) (by first | rfl | simp [zrfcat]) ?_
      refine z_goto C 54 dB_restore_76 (by decide) ?_
      refine z_sub [1, 2, 3, 0] rfl ?_
      exact ih V n a0 x1 x2 (x3 + 1) h
def fB_restore_8 : Nat → zV → Nat → Nat → Int32 → Option Nat → Int32 → Option zR
  | 0 => fun _ _ _ _ _ _ => none
  | f9 + 1 => fun V n a0 x1 x2 x3 =>
    (zgI V (some a0) [5] 7).bind fun t1 =>
    if t1 ≤ x3 then (
    (zgR V (some a0) [5] 3).bind fun t2 =>
    (z_obj V t2 [0]).bind fun o => zcV (fK_clear V n o.1 ) fun V n =>
    fB_restore_54 zF V n a0 x1 x2 (0 : Int32)) else (
    (zgR V (some a0) [5] 2).bind fun t3 =>
    (zaR V t3 6 x3).bind fun t4 =>
    (zgI V t4 [3] 8).bind fun t5 =>
    if t5 = 0 then (
    (zgR V (some a0) [5] 2).bind fun t6 =>
    (zaR V t6 6 x3).bind fun t7 =>
    (z_obj V (some a0) [5]).bind fun o => zcV (fB_stopMark V n o.1 t7 (2 : Int32)) fun V n =>
    fB_restore_39 (fB_restore_8 f9) V n a0 x1 x2 x3) else (
    fB_restore_39 (fB_restore_8 f9) V n a0 x1 x2 x3))
set_option maxHeartbeats 4000000 in
set_option maxRecDepth 100000 in
theorem bB_restore_8 {x : zX} {w : zR} (C : zC x prog_1_method_11_code "BarrierMarks" "restore" 6 8 125 (some .int)) (M : zM x (zc w) (zs w)) : ∀ (f9 : Nat) (V : zV) (n : Nat) (a0 : Nat) (x1 : Int32) (x2 : Option Nat) (x3 : Int32), fB_restore_8 f9 V n a0 x1 x2 x3 = some w → zZ x 6 0 0 w V n 8 [(0, va_rf (some a0)), (1, .int x1), (2, va_rf x2), (3, .int x3)] [] := by
  intro f9
  induction f9 with
  | zero =>
    intro V n a0 x1 x2 x3 h
    cases h
  | succ f9 ih =>
    intro V n a0 x1 x2 x3 h
    unfold fB_restore_8 at h
    refine z_iload_n C 3 dB_restore_8 rfl rfl ?_
    refine z_aload_n C 0 dB_restore_9 rfl rfl ?_
    refine z_getI C fl_B_122 dB_restore_10 h (fun t1 h => ?_)
    refine z_icmp_ge C 45 dB_restore_13 (by decide) h (fun h => ?_) (fun h => ?_)
    · refine z_aload_n C 0 dB_restore_45 rfl rfl ?_
      refine z_getR C fl_B_24 dB_restore_46 h (fun t2 h => ?_)
      refine z_vPV (ci := 0) C M zRmP [] cv_B_186 rfl (by decide) (by decide) rfl rfl (Nat.zero_le _) dB_restore_49 (fun b => fK_clear V n b ) h (fun b w1 e1 l D dA hl => mK_clear hl e1) (fun V n h => ?_)
      refine z_iconst (v := 0) C dB_restore_52 (by decide) ?_
      refine z_istore_n (lv' := [(3, .int (0 : Int32)), (0, va_rf (some a0)), (1, .int x1), (2, va_rf x2)]) (i := 3) C dB_restore_53 rfl (by decide) (by first | rfl | simp [zrfcat]) ?_
      refine z_sub [1, 2, 3, 0] rfl ?_
      exact bB_restore_54 C M zF V n a0 x1 x2 (0 : Int32) h
    · refine z_aload_n C 0 dB_restore_16 rfl rfl ?_
      refine z_getR C fl_B_17 dB_restore_17 h (fun t3 h => ?_)
      refine z_iload_n C 3 dB_restore_20 rfl rfl ?_
      refine z_aald C rfl dB_restore_21 h (fun t4 h => ?_)
      refine z_getI C fl_B_183 dB_restore_22 h (fun t5 h => ?_)
      refine z_if_ne C 39 dB_restore_25 (by decide) h (fun h => ?_) (fun h => ?_)
      · exact bB_restore_39 C M ih V n a0 x1 x2 x3 h
      · refine z_aload_n C 0 dB_restore_28 rfl rfl ?_
        refine z_aload_n C 0 dB_restore_29 rfl rfl ?_
        refine z_getR C fl_B_17 dB_restore_30 h (fun t6 h => ?_)
        refine z_iload_n C 3 dB_restore_33 rfl rfl ?_
        refine z_aald C rfl dB_restore_34 h (fun t7 h => ?_)
        refine z_iconst (v := 2) C dB_restore_35 (by decide) ?_
        refine z_vPV (ci := 5) C M zRmP [va_rf t7, .int (2 : Int32)] cv_B_156 rfl (by decide) (by decide) rfl rfl (Nat.zero_le _) dB_restore_36 (fun b => fB_stopMark V n b t7 (2 : Int32)) h (fun b w1 e1 l D dA hl => mB_stopMark hl e1) (fun V n h => ?_)
        exact bB_restore_39 C M ih V n a0 x1 x2 x3 h
def fB_restore (V : zV) (n : Nat) (a0 : Nat) (x1 : Int32) : Option zR :=
    (z_obj V (some a0) [5]).bind fun o => zcR (fB_completeMarkAt V n o.1 x1) fun t1 V n =>
    fB_restore_8 zF V n a0 x1 t1 (0 : Int32)
set_option maxHeartbeats 4000000 in
set_option maxRecDepth 100000 in
theorem bB_restore {x : zX} {w : zR} (C : zC x prog_1_method_11_code "BarrierMarks" "restore" 6 8 125 (some .int)) (M : zM x (zc w) (zs w)) : ∀ (V : zV) (n : Nat) (a0 : Nat) (x1 : Int32), fB_restore V n a0 x1 = some w → zZ x 6 0 0 w V n 0 [(0, va_rf (some a0)), (1, .int x1)] [] := by
  intro V n a0 x1 h
  unfold fB_restore at h
  refine z_aload_n C 0 dB_restore_0 rfl rfl ?_
  refine z_iload_n C 1 dB_restore_1 rfl rfl ?_
  refine z_vPR (ci := 5) C M zRmP [.int x1] cv_B_180 rfl (by decide) (by decide) rfl rfl (Nat.zero_le _) dB_restore_2 (fun b => fB_completeMarkAt V n b x1) h (fun b w1 e1 l D dA hl => mB_completeMarkAt hl e1) (fun t1 V n h => ?_)
  refine z_astore_n (lv' := [(2, va_rf t1), (0, va_rf (some a0)), (1, .int x1)]) (i := 2) C dB_restore_5 rfl (by decide) rfl ?_
  refine z_iconst (v := 0) C dB_restore_6 (by decide) ?_
  refine z_istore_n (lv' := [(3, .int (0 : Int32)), (2, va_rf t1), (0, va_rf (some a0)), (1, .int x1)]) (i := 3) C dB_restore_7 rfl (by decide) (by first | rfl | simp [zrfcat]) ?_
  refine z_sub [2, 3, 1, 0] rfl ?_
  exact bB_restore_8 C M zF V n a0 x1 t1 (0 : Int32) h
theorem mB_restore {l : Launch} {D : va_G} {dA : Nat → ClassId} {V : zV} {n : Nat} (hl : l.stackTraces = false) {a0 : Nat} {x1 : Int32} {w : zR} (h : fB_restore V n a0 x1 = some w) : z_Met l ⟨"BarrierMarks", "restore", "(I)I"⟩ prog_1_method_11_code 6 (some .int) 8 125 (zc w) (zs w) [.ref a0, .int x1] D dA V n w := by exact z_ofZ hl (by decide) (Nat.le_of_ble_eq_true rfl) (fun x C M => bB_restore C M V n a0 x1 h)
/-! BarrierMarks.state(I)J -/
def fB_state (V : zV) (n : Nat) (a0 : Nat) (x1 : Int32) : Option zR :=
    (z_obj V (some a0) [5]).bind fun o => zcR (fB_taskAt V n o.1 x1) fun t1 V n =>
    (zgL V t1 [4] 6).bind fun t2 =>
    zrL t2 V n
set_option maxHeartbeats 4000000 in
set_option maxRecDepth 100000 in
theorem bB_state {x : zX} {w : zR} (C : zC x prog_1_method_12_code "BarrierMarks" "state" 2 7 103 (some .long)) (M : zM x (zc w) (zs w)) : ∀ (V : zV) (n : Nat) (a0 : Nat) (x1 : Int32), fB_state V n a0 x1 = some w → zZ x 2 0 0 w V n 0 [(0, va_rf (some a0)), (1, .int x1)] [] := by
  intro V n a0 x1 h
  unfold fB_state at h
  refine z_aload_n C 0 dB_state_0 rfl rfl ?_
  refine z_iload_n C 1 dB_state_1 rfl rfl ?_
  refine z_vPR (ci := 5) C M zRmP [.int x1] cv_B_54 rfl (by decide) (by decide) rfl rfl (Nat.zero_le _) dB_state_2 (fun b => fB_taskAt V n b x1) h (fun b w1 e1 l D dA hl => mB_taskAt hl e1) (fun t1 V n h => ?_)
  refine z_getL C fl_B_212 dB_state_5 h (fun t2 h => ?_)
  exact z_lret C M (Nat.zero_le _) (Nat.zero_le _) dB_state_8 h
theorem mB_state {l : Launch} {D : va_G} {dA : Nat → ClassId} {V : zV} {n : Nat} (hl : l.stackTraces = false) {a0 : Nat} {x1 : Int32} {w : zR} (h : fB_state V n a0 x1 = some w) : z_Met l ⟨"BarrierMarks", "state", "(I)J"⟩ prog_1_method_12_code 2 (some .long) 7 103 (zc w) (zs w) [.ref a0, .int x1] D dA V n w := by exact z_ofZ hl (by decide) (Nat.le_of_ble_eq_true rfl) (fun x C M => bB_state C M V n a0 x1 h)
/-! BarrierMarks.task(II)I -/
def fB_task (V : zV) (n : Nat) (a0 : Nat) (x1 : Int32) (x2 : Int32) : Option zR :=
    (z_obj V (some a0) [5]).bind fun o => zcR (fB_taskAt V n o.1 x1) fun t1 V n =>
    if x2 = 0 then (
    (zgI V t1 [4] 7).bind fun t3 =>
    zrI t3 V n) else (
    if x2 = (1 : Int32) then (
    (zgI V t1 [4] 8).bind fun t2 =>
    if t2 = 0 then (
    zrI (0 : Int32) V n) else (
    zrI (1 : Int32) V n)) else (
    zth "java/lang/IllegalArgumentException" V n))
set_option maxHeartbeats 4000000 in
set_option maxRecDepth 100000 in
theorem bB_task {x : zX} {w : zR} (C : zC x prog_1_method_13_code "BarrierMarks" "task" 4 7 103 (some .int)) (M : zM x (zc w) (zs w)) : ∀ (V : zV) (n : Nat) (a0 : Nat) (x1 : Int32) (x2 : Int32), fB_task V n a0 x1 x2 = some w → zZ x 4 0 0 w V n 0 [(0, va_rf (some a0)), (1, .int x1), (2, .int x2)] [] := by
  intro V n a0 x1 x2 h
  unfold fB_task at h
  refine z_aload_n C 0 dB_task_0 rfl rfl ?_
  refine z_iload_n C 1 dB_task_1 rfl rfl ?_
  refine z_vPR (ci := 5) C M zRmP [.int x1] cv_B_54 rfl (by decide) (by decide) rfl rfl (Nat.zero_le _) dB_task_2 (fun b => fB_taskAt V n b x1) h (fun b w1 e1 l D dA hl => mB_taskAt hl e1) (fun t1 V n h => ?_)
  refine z_astore_n (lv' := [(3, va_rf t1), (0, va_rf (some a0)), (1, .int x1), (2, .int x2)]) (i := 3) C dB_task_5 rfl (by decide) rfl ?_
  refine z_iload_n C 3 dB_task_6 rfl rfl ?_
  refine z_if_ne C 15 dB_task_7 (by decide) h (fun h => ?_) (fun h => ?_)
  · refine z_iload_n C 3 dB_task_15 rfl rfl ?_
    refine z_iconst (v := 1) C dB_task_16 (by decide) ?_
    refine z_icmp_ne C 33 dB_task_17 (by decide) h (fun h => ?_) (fun h => ?_)
    · obtain rfl := Option.some.inj h
      exact z_throwS C M th_B_219_87 (by decide) (by decide) (Nat.le_refl _) (Nat.le_refl _) dB_task_33 dB_task_36 dB_task_37 dB_task_39 dB_task_42 rfl
    · refine z_aload_n C 0 dB_task_20 rfl rfl ?_
      refine z_getI C fl_B_131 dB_task_21 h (fun t2 h => ?_)
      refine z_if_eq C 31 dB_task_24 (by decide) h (fun h => ?_) (fun h => ?_)
      · refine z_iconst (v := 0) C dB_task_31 (by decide) ?_
        exact z_iret C M (Nat.zero_le _) (Nat.zero_le _) dB_task_32 h
      · refine z_iconst (v := 1) C dB_task_27 (by decide) ?_
        refine z_goto C 32 dB_task_28 (by decide) ?_
        exact z_iret C M (Nat.zero_le _) (Nat.zero_le _) dB_task_32 h
  · refine z_aload_n C 0 dB_task_10 rfl rfl ?_
    refine z_getI C fl_B_216 dB_task_11 h (fun t3 h => ?_)
    exact z_iret C M (Nat.zero_le _) (Nat.zero_le _) dB_task_14 h
theorem mB_task {l : Launch} {D : va_G} {dA : Nat → ClassId} {V : zV} {n : Nat} (hl : l.stackTraces = false) {a0 : Nat} {x1 : Int32} {x2 : Int32} {w : zR} (h : fB_task V n a0 x1 x2 = some w) : z_Met l ⟨"BarrierMarks", "task", "(II)I"⟩ prog_1_method_13_code 4 (some .int) 7 103 (zc w) (zs w) [.ref a0, .int x1, .int x2] D dA V n w := by exact z_ofZ hl (by decide) (Nat.le_of_ble_eq_true rfl) (fun x C M => bB_task C M V n a0 x1 x2 h)
/-! BarrierMarks.markKeptBy(II)LBarrierMarks$Mark; -/
def fB_markKeptBy (V : zV) (n : Nat) (a0 : Nat) (x1 : Int32) (x2 : Int32) : Option zR :=
    (z_obj V (some a0) [5]).bind fun o => zcR (fB_markAt V n o.1 x1) fun t1 V n =>
    (z_obj V (some a0) [5]).bind fun o => zcR (fB_taskAt V n o.1 x2) fun t2 V n =>
    (zgR V t1 [3] 1).bind fun t3 =>
    (zaI V t3 2 x2).bind fun t4 =>
    if t4 = 0 then (
    zth "java/lang/IllegalStateException" V n) else (
    zrR t1 V n)
set_option maxHeartbeats 4000000 in
set_option maxRecDepth 100000 in
theorem bB_markKeptBy {x : zX} {w : zR} (C : zC x prog_1_method_32_code "BarrierMarks" "markKeptBy" 4 7 103 (some (.object "BarrierMarks$Mark"))) (M : zM x (zc w) (zs w)) : ∀ (V : zV) (n : Nat) (a0 : Nat) (x1 : Int32) (x2 : Int32), fB_markKeptBy V n a0 x1 x2 = some w → zZ x 4 0 0 w V n 0 [(0, va_rf (some a0)), (1, .int x1), (2, .int x2)] [] := by
  intro V n a0 x1 x2 h
  unfold fB_markKeptBy at h
  refine z_aload_n C 0 dB_markKeptBy_0 rfl rfl ?_
  refine z_iload_n C 1 dB_markKeptBy_1 rfl rfl ?_
  refine z_vPR (ci := 5) C M zRmP [.int x1] cv_B_230 rfl (by decide) (by decide) rfl rfl (Nat.zero_le _) dB_markKeptBy_2 (fun b => fB_markAt V n b x1) h (fun b w1 e1 l D dA hl => mB_markAt hl e1) (fun t1 V n h => ?_)
  refine z_astore_n (lv' := [(3, va_rf t1), (0, va_rf (some a0)), (1, .int x1), (2, .int x2)]) (i := 3) C dB_markKeptBy_5 rfl (by decide) rfl ?_
  refine z_aload_n C 1 dB_markKeptBy_6 rfl rfl ?_
  refine z_iload_n C 3 dB_markKeptBy_7 rfl rfl ?_
  refine z_vPR (ci := 5) C M zRmP [.int x2] cv_B_54 rfl (by decide) (by decide) rfl rfl (Nat.zero_le _) dB_markKeptBy_8 (fun b => fB_taskAt V n b x2) h (fun b w1 e1 l D dA hl => mB_taskAt hl e1) (fun t2 V n h => ?_)
  refine z_pop C dB_markKeptBy_11 (zrfcat _) ?_
  refine z_aload_n C 0 dB_markKeptBy_12 rfl rfl ?_
  refine z_getR C fl_B_163 dB_markKeptBy_13 h (fun t3 h => ?_)
  refine z_iload_n C 3 dB_markKeptBy_16 rfl rfl ?_
  refine z_zald C rfl dB_markKeptBy_17 h (fun t4 h => ?_)
  refine z_if_ne C 32 dB_markKeptBy_18 (by decide) h (fun h => ?_) (fun h => ?_)
  · refine z_aload_n C 0 dB_markKeptBy_32 rfl rfl ?_
    exact z_aret C M (Nat.zero_le _) (Nat.zero_le _) dB_markKeptBy_33 h
  · obtain rfl := Option.some.inj h
    exact z_throwSW C M th_B_273_66 (by decide) (by decide) (Nat.le_refl _) (Nat.le_refl _) dB_markKeptBy_21 dB_markKeptBy_24 dB_markKeptBy_25 dB_markKeptBy_28 dB_markKeptBy_31 rfl
theorem mB_markKeptBy {l : Launch} {D : va_G} {dA : Nat → ClassId} {V : zV} {n : Nat} (hl : l.stackTraces = false) {a0 : Nat} {x1 : Int32} {x2 : Int32} {w : zR} (h : fB_markKeptBy V n a0 x1 x2 = some w) : z_Met l ⟨"BarrierMarks", "markKeptBy", "(II)LBarrierMarks$Mark;"⟩ prog_1_method_32_code 4 (some (.object "BarrierMarks$Mark")) 7 103 (zc w) (zs w) [.ref a0, .int x1, .int x2] D dA V n w := by exact z_ofZ hl (by decide) (Nat.le_of_ble_eq_true rfl) (fun x C M => bB_markKeptBy C M V n a0 x1 x2 h)
/-! BarrierMarks.kept(II)J -/
def fB_kept (V : zV) (n : Nat) (a0 : Nat) (x1 : Int32) (x2 : Int32) : Option zR :=
    (z_obj V (some a0) [5]).bind fun o => zcR (fB_markKeptBy V n o.1 x1 x2) fun t1 V n =>
    (zgR V t1 [3] 4).bind fun t2 =>
    (zaL V t2 1 x2).bind fun t3 =>
    zrL t3 V n
set_option maxHeartbeats 4000000 in
set_option maxRecDepth 100000 in
theorem bB_kept {x : zX} {w : zR} (C : zC x prog_1_method_14_code "BarrierMarks" "kept" 3 8 126 (some .long)) (M : zM x (zc w) (zs w)) : ∀ (V : zV) (n : Nat) (a0 : Nat) (x1 : Int32) (x2 : Int32), fB_kept V n a0 x1 x2 = some w → zZ x 3 0 0 w V n 0 [(0, va_rf (some a0)), (1, .int x1), (2, .int x2)] [] := by
  intro V n a0 x1 x2 h
  unfold fB_kept at h
  refine z_aload_n C 0 dB_kept_0 rfl rfl ?_
  refine z_iload_n C 1 dB_kept_1 rfl rfl ?_
  refine z_iload_n C 2 dB_kept_2 rfl rfl ?_
  refine z_vPR (ci := 5) C M zRmP [.int x1, .int x2] cv_B_221 rfl (by decide) (by decide) rfl rfl (Nat.zero_le _) dB_kept_3 (fun b => fB_markKeptBy V n b x1 x2) h (fun b w1 e1 l D dA hl => mB_markKeptBy hl e1) (fun t1 V n h => ?_)
  refine z_getR C fl_B_225 dB_kept_6 h (fun t2 h => ?_)
  refine z_iload_n C 2 dB_kept_9 rfl rfl ?_
  refine z_lald C rfl dB_kept_10 h (fun t3 h => ?_)
  exact z_lret C M (Nat.zero_le _) (Nat.zero_le _) dB_kept_11 h
theorem mB_kept {l : Launch} {D : va_G} {dA : Nat → ClassId} {V : zV} {n : Nat} (hl : l.stackTraces = false) {a0 : Nat} {x1 : Int32} {x2 : Int32} {w : zR} (h : fB_kept V n a0 x1 x2 = some w) : z_Met l ⟨"BarrierMarks", "kept", "(II)J"⟩ prog_1_method_14_code 3 (some .long) 8 126 (zc w) (zs w) [.ref a0, .int x1, .int x2] D dA V n w := by exact z_ofZ hl (by decide) (Nat.le_of_ble_eq_true rfl) (fun x C M => bB_kept C M V n a0 x1 x2 h)
/-! BarrierMarks.keptRows(II)I -/
def fB_keptRows (V : zV) (n : Nat) (a0 : Nat) (x1 : Int32) (x2 : Int32) : Option zR :=
    (z_obj V (some a0) [5]).bind fun o => zcR (fB_markKeptBy V n o.1 x1 x2) fun t1 V n =>
    (zgR V t1 [3] 5).bind fun t2 =>
    (zaI V t2 0 x2).bind fun t3 =>
    zrI t3 V n
set_option maxHeartbeats 4000000 in
set_option maxRecDepth 100000 in
theorem bB_keptRows {x : zX} {w : zR} (C : zC x prog_1_method_15_code "BarrierMarks" "keptRows" 3 8 126 (some .int)) (M : zM x (zc w) (zs w)) : ∀ (V : zV) (n : Nat) (a0 : Nat) (x1 : Int32) (x2 : Int32), fB_keptRows V n a0 x1 x2 = some w → zZ x 3 0 0 w V n 0 [(0, va_rf (some a0)), (1, .int x1), (2, .int x2)] [] := by
  intro V n a0 x1 x2 h
  unfold fB_keptRows at h
  refine z_aload_n C 0 dB_keptRows_0 rfl rfl ?_
  refine z_iload_n C 1 dB_keptRows_1 rfl rfl ?_
  refine z_iload_n C 2 dB_keptRows_2 rfl rfl ?_
  refine z_vPR (ci := 5) C M zRmP [.int x1, .int x2] cv_B_221 rfl (by decide) (by decide) rfl rfl (Nat.zero_le _) dB_keptRows_3 (fun b => fB_markKeptBy V n b x1 x2) h (fun b w1 e1 l D dA hl => mB_markKeptBy hl e1) (fun t1 V n h => ?_)
  refine z_getR C fl_B_228 dB_keptRows_6 h (fun t2 h => ?_)
  refine z_iload_n C 2 dB_keptRows_9 rfl rfl ?_
  refine z_iald C rfl dB_keptRows_10 h (fun t3 h => ?_)
  exact z_iret C M (Nat.zero_le _) (Nat.zero_le _) dB_keptRows_11 h
theorem mB_keptRows {l : Launch} {D : va_G} {dA : Nat → ClassId} {V : zV} {n : Nat} (hl : l.stackTraces = false) {a0 : Nat} {x1 : Int32} {x2 : Int32} {w : zR} (h : fB_keptRows V n a0 x1 x2 = some w) : z_Met l ⟨"BarrierMarks", "keptRows", "(II)I"⟩ prog_1_method_15_code 3 (some .int) 8 126 (zc w) (zs w) [.ref a0, .int x1, .int x2] D dA V n w := by exact z_ofZ hl (by decide) (Nat.le_of_ble_eq_true rfl) (fun x C M => bB_keptRows C M V n a0 x1 x2 h)
/-! BarrierMarks.position(II)I -/
def fB_position (V : zV) (n : Nat) (a0 : Nat) (x1 : Int32) (x2 : Int32) : Option zR :=
    (z_obj V (some a0) [5]).bind fun o => zcR (fB_markAt V n o.1 x1) fun t1 V n =>
    (z_obj V (some a0) [5]).bind fun o => zcR (fB_channelAt V n o.1 x2) fun t2 V n =>
    (zinst V t2 [1, 2] 1).bind fun t3 =>
    if t3 = 0 then (
    zth "java/lang/IndexOutOfBoundsException" V n) else (
    (z_obj V t2 [1]).bind fun _ =>
    (zgR V t2 [1] 5).bind fun t4 =>
    (zaI V t4 0 x1).bind fun t5 =>
    zrI t5 V n)
set_option maxHeartbeats 4000000 in
set_option maxRecDepth 100000 in
theorem bB_position {x : zX} {w : zR} (C : zC x prog_1_method_16_code "BarrierMarks" "position" 5 7 103 (some .int)) (M : zM x (zc w) (zs w)) : ∀ (V : zV) (n : Nat) (a0 : Nat) (x1 : Int32) (x2 : Int32), fB_position V n a0 x1 x2 = some w → zZ x 5 0 0 w V n 0 [(0, va_rf (some a0)), (1, .int x1), (2, .int x2)] [] := by
  intro V n a0 x1 x2 h
  unfold fB_position at h
  refine z_aload_n C 0 dB_position_0 rfl rfl ?_
  refine z_iload_n C 1 dB_position_1 rfl rfl ?_
  refine z_vPR (ci := 5) C M zRmP [.int x1] cv_B_230 rfl (by decide) (by decide) rfl rfl (Nat.zero_le _) dB_position_2 (fun b => fB_markAt V n b x1) h (fun b w1 e1 l D dA hl => mB_markAt hl e1) (fun t1 V n h => ?_)
  refine z_pop C dB_position_5 (zrfcat _) ?_
  refine z_aload_n C 0 dB_position_6 rfl rfl ?_
  refine z_iload_n C 2 dB_position_7 rfl rfl ?_
  refine z_vPR (ci := 5) C M zRmP [.int x2] cv_B_233 rfl (by decide) (by decide) rfl rfl (Nat.zero_le _) dB_position_8 (fun b => fB_channelAt V n b x2) h (fun b w1 e1 l D dA hl => mB_channelAt hl e1) (fun t2 V n h => ?_)
  refine z_astore (lv' := [(4, va_rf t2), (0, va_rf (some a0)), (1, .int x1), (2, .int x2)]) C dB_position_11 (by decide) rfl ?_
  refine z_aload C 0 dB_position_13 rfl ?_
  refine z_inst C nl_B_73 io_1 dB_position_15 h (fun t3 h => ?_)
  refine z_if_eq C 34 dB_position_18 (by decide) h (fun h => ?_) (fun h => ?_)
  · obtain rfl := Option.some.inj h
    exact z_throwS C M th_B_242_240 (by decide) (by decide) (Nat.le_refl _) (Nat.le_refl _) dB_position_34 dB_position_37 dB_position_38 dB_position_40 dB_position_43 rfl
  · refine z_aload C 0 dB_position_21 rfl ?_
    refine z_chk C nl_B_73 ck_1 dB_position_23 h (fun _ h => ?_)
    refine z_astore_n (lv' := [(3, va_rf t2), (4, va_rf t2), (0, va_rf (some a0)), (1, .int x1), (2, .int x2)]) (i := 3) C dB_position_26 rfl (by decide) rfl ?_
    refine z_aload_n C 0 dB_position_27 rfl rfl ?_
    refine z_getR C fl_B_237 dB_position_28 h (fun t4 h => ?_)
    refine z_iload_n C 3 dB_position_31 rfl rfl ?_
    refine z_iald C rfl dB_position_32 h (fun t5 h => ?_)
    exact z_iret C M (Nat.zero_le _) (Nat.zero_le _) dB_position_33 h
theorem mB_position {l : Launch} {D : va_G} {dA : Nat → ClassId} {V : zV} {n : Nat} (hl : l.stackTraces = false) {a0 : Nat} {x1 : Int32} {x2 : Int32} {w : zR} (h : fB_position V n a0 x1 x2 = some w) : z_Met l ⟨"BarrierMarks", "position", "(II)I"⟩ prog_1_method_16_code 5 (some .int) 7 103 (zc w) (zs w) [.ref a0, .int x1, .int x2] D dA V n w := by exact z_ofZ hl (by decide) (Nat.le_of_ble_eq_true rfl) (fun x C M => bB_position C M V n a0 x1 x2 h)
/-! BarrierMarks.condition(I)I -/
def fB_condition (V : zV) (n : Nat) (a0 : Nat) (x1 : Int32) : Option zR :=
    (z_obj V (some a0) [5]).bind fun o => zcR (fB_markAt V n o.1 x1) fun t1 V n =>
    (zgI V t1 [3] 8).bind fun t2 =>
    zrI t2 V n
set_option maxHeartbeats 4000000 in
set_option maxRecDepth 100000 in
theorem bB_condition {x : zX} {w : zR} (C : zC x prog_1_method_17_code "BarrierMarks" "condition" 2 7 103 (some .int)) (M : zM x (zc w) (zs w)) : ∀ (V : zV) (n : Nat) (a0 : Nat) (x1 : Int32), fB_condition V n a0 x1 = some w → zZ x 2 0 0 w V n 0 [(0, va_rf (some a0)), (1, .int x1)] [] := by
  intro V n a0 x1 h
  unfold fB_condition at h
  refine z_aload_n C 0 dB_condition_0 rfl rfl ?_
  refine z_iload_n C 1 dB_condition_1 rfl rfl ?_
  refine z_vPR (ci := 5) C M zRmP [.int x1] cv_B_230 rfl (by decide) (by decide) rfl rfl (Nat.zero_le _) dB_condition_2 (fun b => fB_markAt V n b x1) h (fun b w1 e1 l D dA hl => mB_markAt hl e1) (fun t1 V n h => ?_)
  refine z_getI C fl_B_183 dB_condition_5 h (fun t2 h => ?_)
  exact z_iret C M (Nat.zero_le _) (Nat.zero_le _) dB_condition_8 h
theorem mB_condition {l : Launch} {D : va_G} {dA : Nat → ClassId} {V : zV} {n : Nat} (hl : l.stackTraces = false) {a0 : Nat} {x1 : Int32} {w : zR} (h : fB_condition V n a0 x1 = some w) : z_Met l ⟨"BarrierMarks", "condition", "(I)I"⟩ prog_1_method_17_code 2 (some .int) 7 103 (zc w) (zs w) [.ref a0, .int x1] D dA V n w := by exact z_ofZ hl (by decide) (Nat.le_of_ble_eq_true rfl) (fun x C M => bB_condition C M V n a0 x1 h)
/-! BarrierMarks.acknowledged(I)I -/
def fB_acknowledged (V : zV) (n : Nat) (a0 : Nat) (x1 : Int32) : Option zR :=
    (z_obj V (some a0) [5]).bind fun o => zcR (fB_markAt V n o.1 x1) fun t1 V n =>
    (zgI V t1 [3] 7).bind fun t2 =>
    zrI t2 V n
set_option maxHeartbeats 4000000 in
set_option maxRecDepth 100000 in
theorem bB_acknowledged {x : zX} {w : zR} (C : zC x prog_1_method_18_code "BarrierMarks" "acknowledged" 2 7 103 (some .int)) (M : zM x (zc w) (zs w)) : ∀ (V : zV) (n : Nat) (a0 : Nat) (x1 : Int32), fB_acknowledged V n a0 x1 = some w → zZ x 2 0 0 w V n 0 [(0, va_rf (some a0)), (1, .int x1)] [] := by
  intro V n a0 x1 h
  unfold fB_acknowledged at h
  refine z_aload_n C 0 dB_acknowledged_0 rfl rfl ?_
  refine z_iload_n C 1 dB_acknowledged_1 rfl rfl ?_
  refine z_vPR (ci := 5) C M zRmP [.int x1] cv_B_230 rfl (by decide) (by decide) rfl rfl (Nat.zero_le _) dB_acknowledged_2 (fun b => fB_markAt V n b x1) h (fun b w1 e1 l D dA hl => mB_markAt hl e1) (fun t1 V n h => ?_)
  refine z_getI C fl_B_160 dB_acknowledged_5 h (fun t2 h => ?_)
  exact z_iret C M (Nat.zero_le _) (Nat.zero_le _) dB_acknowledged_8 h
theorem mB_acknowledged {l : Launch} {D : va_G} {dA : Nat → ClassId} {V : zV} {n : Nat} (hl : l.stackTraces = false) {a0 : Nat} {x1 : Int32} {w : zR} (h : fB_acknowledged V n a0 x1 = some w) : z_Met l ⟨"BarrierMarks", "acknowledged", "(I)I"⟩ prog_1_method_18_code 2 (some .int) 7 103 (zc w) (zs w) [.ref a0, .int x1] D dA V n w := by exact z_ofZ hl (by decide) (Nat.le_of_ble_eq_true rfl) (fun x C M => bB_acknowledged C M V n a0 x1 h)
/-! BarrierMarks.carryInto(LBarrierMarks$Task;I)V -/
def fB_carryInto_127 (K8 : zV → Nat → Nat → Option Nat → Int32 → Int64 → Int32 → Int32 → Option zR) (V : zV) (n : Nat) (a0 : Nat) (x1 : Option Nat) (x2 : Int32) (x3 : Int64) (x5 : Int32) (x6 : Int32) : Option zR :=
    K8 V n a0 x1 x2 x3 x5 (x6 + 1)
set_option maxHeartbeats 4000000 in
set_option maxRecDepth 100000 in
theorem bB_carryInto_127 {x : zX} {w : zR} {K8 : zV → Nat → Nat → Option Nat → Int32 → Int64 → Int32 → Int32 → Option zR} (C : zC x prog_1_method_45_code "BarrierMarks" "carryInto" 10 0 0 none) (M : zM x (zc w) (zs w)) (hK8 : ∀ (V : zV) (n : Nat) (a0 : Nat) (x1 : Option Nat) (x2 : Int32) (x3 : Int64) (x5 : Int32) (x6 : Int32), K8 V n a0 x1 x2 x3 x5 x6 = some w → zZ x 10 0 0 w V n 8 [(0, va_rf (some a0)), (1, va_rf x1), (2, .int x2), (3, .long x3), (5, .int x5), (6, .int x6)] []) : ∀ (V : zV) (n : Nat) (a0 : Nat) (x1 : Option Nat) (x2 : Int32) (x3 : Int64) (x5 : Int32) (x6 : Int32), fB_carryInto_127 K8 V n a0 x1 x2 x3 x5 x6 = some w → zZ x 10 0 0 w V n 127 [(0, va_rf (some a0)), (1, va_rf x1), (2, .int x2), (3, .long x3), (5, .int x5), (6, .int x6)] [] := by
  intro V n a0 x1 x2 x3 x5 x6 h
  unfold fB_carryInto_127 at h
  refine z_iinc (lv' := [(6, .int (x6 + 1)), (0, va_rf (some a0)), (1, va_rf x1), (2, .int x2), (3, .long x3), (5, .int x5)]) C 5 dB_carryInto_127 rfl rfl (by decide) rfl ?_
  refine z_goto C 8 dB_carryInto_130 (by decide) ?_
  refine z_sub [1, 2, 3, 4, 5, 0] rfl ?_
  exact hK8 V n a0 x1 x2 x3 x5 (x6 + 1) h
def fB_carryInto_8 : Nat → zV → Nat → Nat → Option Nat → Int32 → Int64 → Int32 → Int32 → Option zR
  | 0 => fun _ _ _ _ _ _ _ _ => none
  | f9 + 1 => fun V n a0 x1 x2 x3 x5 x6 =>
    (zgI V x1 [4] 3).bind fun t1 =>
    if t1 ≤ x6 then (
    (zgR V (some a0) [5] 4).bind fun t2 =>
    (zgI V x1 [4] 0).bind fun t3 =>
    (zsL V t2 1 t3 x3).bind fun V =>
    (zgR V (some a0) [5] 5).bind fun t4 =>
    (zgI V x1 [4] 0).bind fun t5 =>
    (zsI V t4 0 t5 x5).bind fun V =>
    zrV V n) else (
    (zgR V x1 [4] 1).bind fun t6 =>
    (zaR V t6 4 x6).bind fun t7 =>
    (zgI V t7 [1, 2] 0).bind fun t8 =>
    (zinst V t7 [1, 2] 1).bind fun t9 =>
    if t9 = 0 then (
    if t8 < 0 then (
    fB_carryInto_127 (fB_carryInto_8 f9) V n a0 x1 x2 x3 x5 x6) else (
    (zgR V (some a0) [5] 0).bind fun t10 =>
    (zalen V t10 3).bind fun t11 =>
    if t11 ≤ t8 then (
    fB_carryInto_127 (fB_carryInto_8 f9) V n a0 x1 x2 x3 x5 x6) else (
    (zgR V (some a0) [5] 4).bind fun t12 =>
    (zaL V t12 1 t8).bind fun t13 =>
    (zgR V (some a0) [5] 5).bind fun t14 =>
    (zaI V t14 0 t8).bind fun t15 =>
    (zgR V (some a0) [5] 5).bind fun t16 =>
    (zaI V t16 0 t8).bind fun t17 =>
    fB_carryInto_127 (fB_carryInto_8 f9) V n a0 x1 x2 ((x3 + (((3 : Int64) * t13) + (t8.toInt64 * t15.toInt64)))) (x5 + t17) x6))) else (
    (z_obj V t7 [1]).bind fun _ =>
    (zgR V t7 [1] 6).bind fun t18 =>
    (zaL V t18 1 x2).bind fun t19 =>
    (zgR V t7 [1] 5).bind fun t20 =>
    (zaI V t20 0 x2).bind fun t21 =>
    fB_carryInto_127 (fB_carryInto_8 f9) V n a0 x1 x2 (x3 + t19) (x5 + t21) x6))
set_option maxHeartbeats 4000000 in
set_option maxRecDepth 100000 in
theorem bB_carryInto_8 {x : zX} {w : zR} (C : zC x prog_1_method_45_code "BarrierMarks" "carryInto" 10 0 0 none) (M : zM x (zc w) (zs w)) : ∀ (f9 : Nat) (V : zV) (n : Nat) (a0 : Nat) (x1 : Option Nat) (x2 : Int32) (x3 : Int64) (x5 : Int32) (x6 : Int32), fB_carryInto_8 f9 V n a0 x1 x2 x3 x5 x6 = some w → zZ x 10 0 0 w V n 8 [(0, va_rf (some a0)), (1, va_rf x1), (2, .int x2), (3, .long x3), (5, .int x5), (6, .int x6)] [] := by
  intro f9
  induction f9 with
  | zero =>
    intro V n a0 x1 x2 x3 x5 x6 h
    cases h
  | succ f9 ih =>
    intro V n a0 x1 x2 x3 x5 x6 h
    unfold fB_carryInto_8 at h
    refine z_iload C 5 dB_carryInto_8 rfl ?_
    refine z_aload_n C 1 dB_carryInto_10 rfl rfl ?_
    refine z_getI C fl_B_80 dB_carryInto_11 h (fun t1 h => ?_)
    refine z_icmp_ge C 133 dB_carryInto_14 (by decide) h (fun h => ?_) (fun h => ?_)
    · refine z_aload_n C 0 dB_carryInto_133 rfl rfl ?_
      refine z_getR C fl_B_46 dB_carryInto_134 h (fun t2 h => ?_)
      refine z_aload_n C 1 dB_carryInto_137 rfl rfl ?_
      refine z_getI C fl_B_304 dB_carryInto_138 h (fun t3 h => ?_)
      refine z_lload_n C 3 dB_carryInto_141 rfl rfl ?_
      refine z_last C rfl dB_carryInto_142 h (fun V h => ?_)
      refine z_aload_n C 0 dB_carryInto_143 rfl rfl ?_
      refine z_getR C fl_B_50 dB_carryInto_144 h (fun t4 h => ?_)
      refine z_aload_n C 1 dB_carryInto_147 rfl rfl ?_
      refine z_getI C fl_B_304 dB_carryInto_148 h (fun t5 h => ?_)
      refine z_iload C 4 dB_carryInto_151 rfl ?_
      refine z_iast C rfl dB_carryInto_153 h (fun V h => ?_)
      exact z_vret C M (Nat.zero_le _) (Nat.zero_le _) dB_carryInto_154 h
    · refine z_aload_n C 1 dB_carryInto_17 rfl rfl ?_
      refine z_getR C fl_B_334 dB_carryInto_18 h (fun t6 h => ?_)
      refine z_iload C 5 dB_carryInto_21 rfl ?_
      refine z_aald C rfl dB_carryInto_23 h (fun t7 h => ?_)
      refine z_astore (lv' := [(7, va_rf t7), (0, va_rf (some a0)), (1, va_rf x1), (2, .int x2), (3, .long x3), (5, .int x5), (6, .int x6)]) C dB_carryInto_24 (by decide) rfl ?_
      refine z_aload C 0 dB_carryInto_26 rfl ?_
      refine z_getI C fl_B_198 dB_carryInto_28 h (fun t8 h => ?_)
      refine z_istore (lv' := [(8, .int t8), (7, va_rf t7), (0, va_rf (some a0)), (1, va_rf x1), (2, .int x2), (3, .long x3), (5, .int x5), (6, .int x6)]) C dB_carryInto_31 (by decide) (by first | rfl | simp [zrfcat]) ?_
      refine z_aload C 1 dB_carryInto_33 rfl ?_
      refine z_inst C nl_B_73 io_1 dB_carryInto_35 h (fun t9 h => ?_)
      refine z_if_eq C 73 dB_carryInto_38 (by decide) h (fun h => ?_) (fun h => ?_)
      · refine z_iload C 0 dB_carryInto_73 rfl ?_
        refine z_if_lt C 127 dB_carryInto_75 (by decide) h (fun h => ?_) (fun h => ?_)
        · refine z_sub [2, 3, 4, 5, 6, 7] rfl ?_
          exact bB_carryInto_127 C M ih V n a0 x1 x2 x3 x5 x6 h
        · refine z_iload C 0 dB_carryInto_78 rfl ?_
          refine z_aload_n C 2 dB_carryInto_80 rfl rfl ?_
          refine z_getR C fl_B_39 dB_carryInto_81 h (fun t10 h => ?_)
          refine z_alen C rfl dB_carryInto_84 h (fun t11 h => ?_)
          refine z_icmp_ge C 127 dB_carryInto_85 (by decide) h (fun h => ?_) (fun h => ?_)
          · refine z_sub [2, 3, 4, 5, 6, 7] rfl ?_
            exact bB_carryInto_127 C M ih V n a0 x1 x2 x3 x5 x6 h
          · refine z_lload_n C 5 dB_carryInto_88 rfl rfl ?_
            refine z_ldc2 (v := 3) C dB_carryInto_89 kl_B_350 ?_
            refine z_aload_n C 2 dB_carryInto_92 rfl rfl ?_
            refine z_getR C fl_B_46 dB_carryInto_93 h (fun t12 h => ?_)
            refine z_iload C 0 dB_carryInto_96 rfl ?_
            refine z_lald C rfl dB_carryInto_98 h (fun t13 h => ?_)
            refine z_lmul C dB_carryInto_99 ?_
            refine z_iload C 0 dB_carryInto_100 rfl ?_
            refine z_i2l C dB_carryInto_102 ?_
            refine z_aload_n C 2 dB_carryInto_103 rfl rfl ?_
            refine z_getR C fl_B_50 dB_carryInto_104 h (fun t14 h => ?_)
            refine z_iload C 0 dB_carryInto_107 rfl ?_
            refine z_iald C rfl dB_carryInto_109 h (fun t15 h => ?_)
            refine z_i2l C dB_carryInto_110 ?_
            refine z_lmul C dB_carryInto_111 ?_
            refine z_ladd C dB_carryInto_112 ?_
            refine z_ladd C dB_carryInto_113 ?_
            refine z_lstore_n (lv' := [(3, .long (x3 + (((3 : Int64) * t13) + (t8.toInt64 * t15.toInt64)))), (8, .int t8), (7, va_rf t7), (0, va_rf (some a0)), (1, va_rf x1), (2, .int x2), (5, .int x5), (6, .int x6)]) (i := 3) C dB_carryInto_114 rfl (by decide) rfl ?_
            refine z_iload C 6 dB_carryInto_115 rfl ?_
            refine z_aload_n C 3 dB_carryInto_117 rfl rfl ?_
            refine z_getR C fl_B_50 dB_carryInto_118 h (fun t16 h => ?_)
            refine z_iload C 1 dB_carryInto_121 rfl ?_
            refine z_iald C rfl dB_carryInto_123 h (fun t17 h => ?_)
            refine z_iadd C dB_carryInto_124 ?_
            refine z_istore (lv' := [(5, .int (x5 + t17)), (3, .long (x3 + (((3 : Int64) * t13) + (t8.toInt64 * t15.toInt64)))), (8, .int t8), (7, va_rf t7), (0, va_rf (some a0)), (1, va_rf x1), (2, .int x2), (6, .int x6)]) C dB_carryInto_125 (by decide) rfl ?_
            refine z_sub [4, 5, 6, 1, 0, 7] rfl ?_
            exact bB_carryInto_127 C M ih V n a0 x1 x2 ((x3 + (((3 : Int64) * t13) + (t8.toInt64 * t15.toInt64)))) (x5 + t17) x6 h
      · refine z_aload C 1 dB_carryInto_41 rfl ?_
        refine z_chk C nl_B_73 ck_1 dB_carryInto_43 h (fun _ h => ?_)
        refine z_astore (lv' := [(9, va_rf t7), (8, .int t8), (7, va_rf t7), (0, va_rf (some a0)), (1, va_rf x1), (2, .int x2), (3, .long x3), (5, .int x5), (6, .int x6)]) C dB_carryInto_46 (by decide) rfl ?_
        refine z_lload_n C 6 dB_carryInto_48 rfl rfl ?_
        refine z_aload C 0 dB_carryInto_49 rfl ?_
        refine z_getR C fl_B_356 dB_carryInto_51 h (fun t18 h => ?_)
        refine z_iload_n C 5 dB_carryInto_54 rfl rfl ?_
        refine z_lald C rfl dB_carryInto_55 h (fun t19 h => ?_)
        refine z_ladd C dB_carryInto_56 ?_
        refine z_lstore_n (lv' := [(3, .long (x3 + t19)), (9, va_rf t7), (8, .int t8), (7, va_rf t7), (0, va_rf (some a0)), (1, va_rf x1), (2, .int x2), (5, .int x5), (6, .int x6)]) (i := 3) C dB_carryInto_57 rfl (by decide) rfl ?_
        refine z_iload C 7 dB_carryInto_58 rfl ?_
        refine z_aload C 1 dB_carryInto_60 rfl ?_
        refine z_getR C fl_B_237 dB_carryInto_62 h (fun t20 h => ?_)
        refine z_iload_n C 6 dB_carryInto_65 rfl rfl ?_
        refine z_iald C rfl dB_carryInto_66 h (fun t21 h => ?_)
        refine z_iadd C dB_carryInto_67 ?_
        refine z_istore (lv' := [(5, .int (x5 + t21)), (3, .long (x3 + t19)), (9, va_rf t7), (8, .int t8), (7, va_rf t7), (0, va_rf (some a0)), (1, va_rf x1), (2, .int x2), (6, .int x6)]) C dB_carryInto_68 (by decide) rfl ?_
        refine z_goto C 127 dB_carryInto_70 (by decide) ?_
        refine z_sub [5, 6, 7, 1, 0, 8] rfl ?_
        exact bB_carryInto_127 C M ih V n a0 x1 x2 (x3 + t19) (x5 + t21) x6 h
def fB_carryInto (V : zV) (n : Nat) (a0 : Nat) (x1 : Option Nat) (x2 : Int32) : Option zR :=
    fB_carryInto_8 zF V n a0 x1 x2 (0 : Int64) (0 : Int32) (0 : Int32)
set_option maxHeartbeats 4000000 in
set_option maxRecDepth 100000 in
theorem bB_carryInto {x : zX} {w : zR} (C : zC x prog_1_method_45_code "BarrierMarks" "carryInto" 10 0 0 none) (M : zM x (zc w) (zs w)) : ∀ (V : zV) (n : Nat) (a0 : Nat) (x1 : Option Nat) (x2 : Int32), fB_carryInto V n a0 x1 x2 = some w → zZ x 10 0 0 w V n 0 [(0, va_rf (some a0)), (1, va_rf x1), (2, .int x2)] [] := by
  intro V n a0 x1 x2 h
  unfold fB_carryInto at h
  refine z_lconst (v := 0) C dB_carryInto_0 (by decide) ?_
  refine z_lstore_n (lv' := [(3, .long (0 : Int64)), (0, va_rf (some a0)), (1, va_rf x1), (2, .int x2)]) (i := 3) C dB_carryInto_1 rfl (by decide) rfl ?_
  refine z_iconst (v := 0) C dB_carryInto_2 (by decide) ?_
  refine z_istore (lv' := [(5, .int (0 : Int32)), (3, .long (0 : Int64)), (0, va_rf (some a0)), (1, va_rf x1), (2, .int x2)]) C dB_carryInto_3 (by decide) rfl ?_
  refine z_iconst (v := 0) C dB_carryInto_5 (by decide) ?_
  refine z_istore (lv' := [(6, .int (0 : Int32)), (5, .int (0 : Int32)), (3, .long (0 : Int64)), (0, va_rf (some a0)), (1, va_rf x1), (2, .int x2)]) C dB_carryInto_6 (by decide) rfl ?_
  refine z_sub [3, 4, 5, 2, 1, 0] rfl ?_
  exact bB_carryInto_8 C M zF V n a0 x1 x2 (0 : Int64) (0 : Int32) (0 : Int32) h
theorem mB_carryInto {l : Launch} {D : va_G} {dA : Nat → ClassId} {V : zV} {n : Nat} (hl : l.stackTraces = false) {a0 : Nat} {x1 : Option Nat} {x2 : Int32} {w : zR} (h : fB_carryInto V n a0 x1 x2 = some w) : z_Met l ⟨"BarrierMarks", "carryInto", "(LBarrierMarks$Task;I)V"⟩ prog_1_method_45_code 10 none 0 0 (zc w) (zs w) [.ref a0, va_rf x1, .int x2] D dA V n w := by cases x1 <;> exact z_ofZ hl (by decide) (Nat.le_of_ble_eq_true rfl) (fun x C M => bB_carryInto C M V n a0 _ x2 h)
/-! BarrierMarks.carryAlone(I)V -/
def fB_carryAlone_44 (K33 : zV → Nat → Nat → Int32 → Int32 → Option zR) : Nat → zV → Nat → Nat → Int32 → Int32 → Int32 → Option zR
  | 0 => fun _ _ _ _ _ _ => none
  | f9 + 1 => fun V n a0 x1 x2 x3 =>
    (zgR V (some a0) [5] 0).bind fun t1 =>
    (zalen V t1 3).bind fun t2 =>
    if t2 ≤ x3 then (
    K33 V n a0 x1 (x2 + 1)) else (
    (zgR V (some a0) [5] 0).bind fun t3 =>
    (zaR V t3 3 x3).bind fun t4 =>
    (z_obj V (some a0) [5]).bind fun o => zcV (fB_carryInto V n o.1 t4 x1) fun V n =>
    (fB_carryAlone_44 K33 f9) V n a0 x1 x2 (x3 + 1))
set_option maxHeartbeats 4000000 in
set_option maxRecDepth 100000 in
theorem bB_carryAlone_44 {x : zX} {w : zR} {K33 : zV → Nat → Nat → Int32 → Int32 → Option zR} (C : zC x prog_1_method_44_code "BarrierMarks" "carryAlone" 4 1 29 none) (M : zM x (zc w) (zs w)) (hK33 : ∀ (V : zV) (n : Nat) (a0 : Nat) (x1 : Int32) (x2 : Int32), K33 V n a0 x1 x2 = some w → zZ x 4 0 0 w V n 33 [(0, va_rf (some a0)), (1, .int x1), (2, .int x2)] []) : ∀ (f9 : Nat) (V : zV) (n : Nat) (a0 : Nat) (x1 : Int32) (x2 : Int32) (x3 : Int32), fB_carryAlone_44 K33 f9 V n a0 x1 x2 x3 = some w → zZ x 4 0 0 w V n 44 [(0, va_rf (some a0)), (1, .int x1), (2, .int x2), (3, .int x3)] [] := by
  intro f9
  induction f9 with
  | zero =>
    intro V n a0 x1 x2 x3 h
    cases h
  | succ f9 ih =>
    intro V n a0 x1 x2 x3 h
    unfold fB_carryAlone_44 at h
    refine z_iload_n C 3 dB_carryAlone_44 rfl rfl ?_
    refine z_aload_n C 0 dB_carryAlone_45 rfl rfl ?_
    refine z_getR C fl_B_39 dB_carryAlone_46 h (fun t1 h => ?_)
    refine z_alen C rfl dB_carryAlone_49 h (fun t2 h => ?_)
    refine z_icmp_ge C 70 dB_carryAlone_50 (by decide) h (fun h => ?_) (fun h => ?_)
    · refine z_iinc (lv' := [(2, .int (x2 + 1)), (0, va_rf (some a0)), (1, .int x1), (3, .int x3)]) C 2 dB_carryAlone_70 rfl rfl (by decide) rfl ?_
      refine z_goto C 33 dB_carryAlone_73 (by decide) ?_
      refine z_sub [1, 2, 0] rfl ?_
      exact hK33 V n a0 x1 (x2 + 1) h
    · refine z_aload_n C 0 dB_carryAlone_53 rfl rfl ?_
      refine z_aload_n C 0 dB_carryAlone_54 rfl rfl ?_
      refine z_getR C fl_B_39 dB_carryAlone_55 h (fun t3 h => ?_)
      refine z_iload_n C 3 dB_carryAlone_58 rfl rfl ?_
      refine z_aald C rfl dB_carryAlone_59 h (fun t4 h => ?_)
      refine z_iload_n C 1 dB_carryAlone_60 rfl rfl ?_
      refine z_vPV (ci := 5) C M zRmP [va_rf t4, .int x1] cv_B_352 rfl (by decide) (by decide) rfl rfl (Nat.zero_le _) dB_carryAlone_61 (fun b => fB_carryInto V n b t4 x1) h (fun b w1 e1 l D dA hl => mB_carryInto hl e1) (fun V n h => ?_)
      refine z_iinc (lv' := [(3, .int (x3 + 1)), (0, va_rf (some a0)), (1, .int x1), (2, .int x2)]) C 3 dB_carryAlone_64 rfl rfl (by decide) rfl ?_
      refine z_goto C 44 dB_carryAlone_67 (by decide) ?_
      refine z_sub [1, 2, 3, 0] rfl ?_
      exact ih V n a0 x1 x2 (x3 + 1) h
def fB_carryAlone_33 : Nat → zV → Nat → Nat → Int32 → Int32 → Option zR
  | 0 => fun _ _ _ _ _ => none
  | f9 + 1 => fun V n a0 x1 x2 =>
    (zgR V (some a0) [5] 0).bind fun t1 =>
    (zalen V t1 3).bind fun t2 =>
    if t2 ≤ x2 then (
    zrV V n) else (
    fB_carryAlone_44 (fB_carryAlone_33 f9) zF V n a0 x1 x2 (0 : Int32))
set_option maxHeartbeats 4000000 in
set_option maxRecDepth 100000 in
theorem bB_carryAlone_33 {x : zX} {w : zR} (C : zC x prog_1_method_44_code "BarrierMarks" "carryAlone" 4 1 29 none) (M : zM x (zc w) (zs w)) : ∀ (f9 : Nat) (V : zV) (n : Nat) (a0 : Nat) (x1 : Int32) (x2 : Int32), fB_carryAlone_33 f9 V n a0 x1 x2 = some w → zZ x 4 0 0 w V n 33 [(0, va_rf (some a0)), (1, .int x1), (2, .int x2)] [] := by
  intro f9
  induction f9 with
  | zero =>
    intro V n a0 x1 x2 h
    cases h
  | succ f9 ih =>
    intro V n a0 x1 x2 h
    unfold fB_carryAlone_33 at h
    refine z_iload_n C 2 dB_carryAlone_33 rfl rfl ?_
    refine z_aload_n C 0 dB_carryAlone_34 rfl rfl ?_
    refine z_getR C fl_B_39 dB_carryAlone_35 h (fun t1 h => ?_)
    refine z_alen C rfl dB_carryAlone_38 h (fun t2 h => ?_)
    refine z_icmp_ge C 76 dB_carryAlone_39 (by decide) h (fun h => ?_) (fun h => ?_)
    · exact z_vret C M (Nat.zero_le _) (Nat.zero_le _) dB_carryAlone_76 h
    · refine z_iconst (v := 0) C dB_carryAlone_42 (by decide) ?_
      refine z_istore_n (lv' := [(3, .int (0 : Int32)), (0, va_rf (some a0)), (1, .int x1), (2, .int x2)]) (i := 3) C dB_carryAlone_43 rfl (by decide) rfl ?_
      refine z_sub [1, 2, 3, 0] rfl ?_
      exact bB_carryAlone_44 C M ih zF V n a0 x1 x2 (0 : Int32) h
def fB_carryAlone_2 : Nat → zV → Nat → Nat → Int32 → Int32 → Option zR
  | 0 => fun _ _ _ _ _ => none
  | f9 + 1 => fun V n a0 x1 x2 =>
    (zgR V (some a0) [5] 0).bind fun t1 =>
    (zalen V t1 3).bind fun t2 =>
    if t2 ≤ x2 then (
    fB_carryAlone_33 zF V n a0 x1 (0 : Int32)) else (
    (zgR V (some a0) [5] 4).bind fun t3 =>
    (zsL V t3 1 x2 (0 : Int64)).bind fun V =>
    (zgR V (some a0) [5] 5).bind fun t4 =>
    (zsI V t4 0 x2 (0 : Int32)).bind fun V =>
    (fB_carryAlone_2 f9) V n a0 x1 (x2 + 1))
set_option maxHeartbeats 4000000 in
set_option maxRecDepth 100000 in
theorem bB_carryAlone_2 {x : zX} {w : zR} (C : zC x prog_1_method_44_code "BarrierMarks" "carryAlone" 4 1 29 none) (M : zM x (zc w) (zs w)) : ∀ (f9 : Nat) (V : zV) (n : Nat) (a0 : Nat) (x1 : Int32) (x2 : Int32), fB_carryAlone_2 f9 V n a0 x1 x2 = some w → zZ x 4 0 0 w V n 2 [(0, va_rf (some a0)), (1, .int x1), (2, .int x2)] [] := by
  intro f9
  induction f9 with
  | zero =>
    intro V n a0 x1 x2 h
    cases h
  | succ f9 ih =>
    intro V n a0 x1 x2 h
    unfold fB_carryAlone_2 at h
    refine z_iload_n C 2 dB_carryAlone_2 rfl rfl ?_
    refine z_aload_n C 0 dB_carryAlone_3 rfl rfl ?_
    refine z_getR C fl_B_39 dB_carryAlone_4 h (fun t1 h => ?_)
    refine z_alen C rfl dB_carryAlone_7 h (fun t2 h => ?_)
    refine z_icmp_ge C 31 dB_carryAlone_8 (by decide) h (fun h => ?_) (fun h => ?_)
    · refine z_iconst (v := 0) C dB_carryAlone_31 (by decide) ?_
      refine z_istore_n (lv' := [(2, .int (0 : Int32)), (0, va_rf (some a0)), (1, .int x1)]) (i := 2) C dB_carryAlone_32 rfl (by decide) rfl ?_
      refine z_sub [1, 2, 0] rfl ?_
      exact bB_carryAlone_33 C M zF V n a0 x1 (0 : Int32) h
    · refine z_aload_n C 0 dB_carryAlone_11 rfl rfl ?_
      refine z_getR C fl_B_46 dB_carryAlone_12 h (fun t3 h => ?_)
      refine z_iload_n C 2 dB_carryAlone_15 rfl rfl ?_
      refine z_lconst (v := 0) C dB_carryAlone_16 (by decide) ?_
      refine z_last C rfl dB_carryAlone_17 h (fun V h => ?_)
      refine z_aload_n C 0 dB_carryAlone_18 rfl rfl ?_
      refine z_getR C fl_B_50 dB_carryAlone_19 h (fun t4 h => ?_)
      refine z_iload_n C 2 dB_carryAlone_22 rfl rfl ?_
      refine z_iconst (v := 0) C dB_carryAlone_23 (by decide) ?_
      refine z_iast C rfl dB_carryAlone_24 h (fun V h => ?_)
      refine z_iinc (lv' := [(2, .int (x2 + 1)), (0, va_rf (some a0)), (1, .int x1)]) C 2 dB_carryAlone_25 rfl rfl (by decide) rfl ?_
      refine z_goto C 2 dB_carryAlone_28 (by decide) ?_
      refine z_sub [1, 2, 0] rfl ?_
      exact ih V n a0 x1 (x2 + 1) h
def fB_carryAlone (V : zV) (n : Nat) (a0 : Nat) (x1 : Int32) : Option zR :=
    fB_carryAlone_2 zF V n a0 x1 (0 : Int32)
set_option maxHeartbeats 4000000 in
set_option maxRecDepth 100000 in
theorem bB_carryAlone {x : zX} {w : zR} (C : zC x prog_1_method_44_code "BarrierMarks" "carryAlone" 4 1 29 none) (M : zM x (zc w) (zs w)) : ∀ (V : zV) (n : Nat) (a0 : Nat) (x1 : Int32), fB_carryAlone V n a0 x1 = some w → zZ x 4 0 0 w V n 0 [(0, va_rf (some a0)), (1, .int x1)] [] := by
  intro V n a0 x1 h
  unfold fB_carryAlone at h
  refine z_iconst (v := 0) C dB_carryAlone_0 (by decide) ?_
  refine z_istore_n (lv' := [(2, .int (0 : Int32)), (0, va_rf (some a0)), (1, .int x1)]) (i := 2) C dB_carryAlone_1 rfl (by decide) rfl ?_
  refine z_sub [1, 2, 0] rfl ?_
  exact bB_carryAlone_2 C M zF V n a0 x1 (0 : Int32) h
theorem mB_carryAlone {l : Launch} {D : va_G} {dA : Nat → ClassId} {V : zV} {n : Nat} (hl : l.stackTraces = false) {a0 : Nat} {x1 : Int32} {w : zR} (h : fB_carryAlone V n a0 x1 = some w) : z_Met l ⟨"BarrierMarks", "carryAlone", "(I)V"⟩ prog_1_method_44_code 4 none 1 29 (zc w) (zs w) [.ref a0, .int x1] D dA V n w := by exact z_ofZ hl (by decide) (Nat.le_of_ble_eq_true rfl) (fun x C M => bB_carryAlone C M V n a0 x1 h)
/-! BarrierMarks.exact(I)Z -/
def fB_exact_13 : Nat → zV → Nat → Nat → Option Nat → Int32 → Option zR
  | 0 => fun _ _ _ _ _ => none
  | f9 + 1 => fun V n a0 x2 x3 =>
    (zgR V (some a0) [5] 0).bind fun t1 =>
    (zalen V t1 3).bind fun t2 =>
    if t2 ≤ x3 then (
    zrZ (1 : Int32) V n) else (
    (zgR V x2 [3] 4).bind fun t3 =>
    (zaL V t3 1 x3).bind fun t4 =>
    (zgR V (some a0) [5] 4).bind fun t5 =>
    (zaL V t5 1 x3).bind fun t6 =>
    if (lg_cmp t4 t6) = 0 then (
    (zgR V x2 [3] 5).bind fun t7 =>
    (zaI V t7 0 x3).bind fun t8 =>
    (zgR V (some a0) [5] 5).bind fun t9 =>
    (zaI V t9 0 x3).bind fun t10 =>
    if t8 = t10 then (
    (fB_exact_13 f9) V n a0 x2 (x3 + 1)) else (
    zrZ (0 : Int32) V n)) else (
    zrZ (0 : Int32) V n))
set_option maxHeartbeats 4000000 in
set_option maxRecDepth 100000 in
theorem bB_exact_13 {x : zX} {w : zR} (C : zC x prog_1_method_19_code "BarrierMarks" "exact" 4 8 125 (some .boolean)) (M : zM x (zc w) (zs w)) : ∀ (f9 : Nat) (V : zV) (n : Nat) (a0 : Nat) (x2 : Option Nat) (x3 : Int32), fB_exact_13 f9 V n a0 x2 x3 = some w → zZ x 4 0 0 w V n 13 [(0, va_rf (some a0)), (2, va_rf x2), (3, .int x3)] [] := by
  intro f9
  induction f9 with
  | zero =>
    intro V n a0 x2 x3 h
    cases h
  | succ f9 ih =>
    intro V n a0 x2 x3 h
    unfold fB_exact_13 at h
    refine z_iload_n C 2 dB_exact_13 rfl rfl ?_
    refine z_aload_n C 0 dB_exact_14 rfl rfl ?_
    refine z_getR C fl_B_39 dB_exact_15 h (fun t1 h => ?_)
    refine z_alen C rfl dB_exact_18 h (fun t2 h => ?_)
    refine z_icmp_ge C 61 dB_exact_19 (by decide) h (fun h => ?_) (fun h => ?_)
    · refine z_iconst (v := 1) C dB_exact_61 (by decide) ?_
      exact z_zret C M (Nat.zero_le _) (Nat.zero_le _) dB_exact_62 h
    · refine z_aload_n C 1 dB_exact_22 rfl rfl ?_
      refine z_getR C fl_B_225 dB_exact_23 h (fun t3 h => ?_)
      refine z_iload_n C 2 dB_exact_26 rfl rfl ?_
      refine z_lald C rfl dB_exact_27 h (fun t4 h => ?_)
      refine z_aload_n C 0 dB_exact_28 rfl rfl ?_
      refine z_getR C fl_B_46 dB_exact_29 h (fun t5 h => ?_)
      refine z_iload_n C 2 dB_exact_32 rfl rfl ?_
      refine z_lald C rfl dB_exact_33 h (fun t6 h => ?_)
      refine z_lcmp C dB_exact_34 ?_
      refine z_if_ne C 53 dB_exact_35 (by decide) h (fun h => ?_) (fun h => ?_)
      · refine z_iconst (v := 0) C dB_exact_53 (by decide) ?_
        exact z_zret C M (Nat.zero_le _) (Nat.zero_le _) dB_exact_54 h
      · refine z_aload_n C 1 dB_exact_38 rfl rfl ?_
        refine z_getR C fl_B_228 dB_exact_39 h (fun t7 h => ?_)
        refine z_iload_n C 2 dB_exact_42 rfl rfl ?_
        refine z_iald C rfl dB_exact_43 h (fun t8 h => ?_)
        refine z_aload_n C 0 dB_exact_44 rfl rfl ?_
        refine z_getR C fl_B_50 dB_exact_45 h (fun t9 h => ?_)
        refine z_iload_n C 2 dB_exact_48 rfl rfl ?_
        refine z_iald C rfl dB_exact_49 h (fun t10 h => ?_)
        refine z_icmp_eq C 55 dB_exact_50 (by decide) h (fun h => ?_) (fun h => ?_)
        · refine z_iinc (lv' := [(3, .int (x3 + 1)), (0, va_rf (some a0)), (2, va_rf x2)]) C 2 dB_exact_55 rfl rfl (by decide) (by first | rfl | simp [zrfcat]) ?_
          refine z_goto C 13 dB_exact_58 (by decide) ?_
          refine z_sub [1, 2, 0] rfl ?_
          exact ih V n a0 x2 (x3 + 1) h
        · refine z_iconst (v := 0) C dB_exact_53 (by decide) ?_
          exact z_zret C M (Nat.zero_le _) (Nat.zero_le _) dB_exact_54 h
def fB_exact (V : zV) (n : Nat) (a0 : Nat) (x1 : Int32) : Option zR :=
    (z_obj V (some a0) [5]).bind fun o => zcR (fB_completeMarkAt V n o.1 x1) fun t1 V n =>
    (z_obj V (some a0) [5]).bind fun o => zcV (fB_carryAlone V n o.1 x1) fun V n =>
    fB_exact_13 zF V n a0 t1 (0 : Int32)
set_option maxHeartbeats 4000000 in
set_option maxRecDepth 100000 in
theorem bB_exact {x : zX} {w : zR} (C : zC x prog_1_method_19_code "BarrierMarks" "exact" 4 8 125 (some .boolean)) (M : zM x (zc w) (zs w)) : ∀ (V : zV) (n : Nat) (a0 : Nat) (x1 : Int32), fB_exact V n a0 x1 = some w → zZ x 4 0 0 w V n 0 [(0, va_rf (some a0)), (1, .int x1)] [] := by
  intro V n a0 x1 h
  unfold fB_exact at h
  refine z_aload_n C 0 dB_exact_0 rfl rfl ?_
  refine z_iload_n C 1 dB_exact_1 rfl rfl ?_
  refine z_vPR (ci := 5) C M zRmP [.int x1] cv_B_180 rfl (by decide) (by decide) rfl rfl (Nat.zero_le _) dB_exact_2 (fun b => fB_completeMarkAt V n b x1) h (fun b w1 e1 l D dA hl => mB_completeMarkAt hl e1) (fun t1 V n h => ?_)
  refine z_astore_n (lv' := [(2, va_rf t1), (0, va_rf (some a0)), (1, .int x1)]) (i := 2) C dB_exact_5 rfl (by decide) rfl ?_
  refine z_aload_n C 1 dB_exact_6 rfl rfl ?_
  refine z_iload_n C 2 dB_exact_7 rfl rfl ?_
  refine z_vPV (ci := 5) C M zRmP [.int x1] cv_B_245 rfl (by decide) (by decide) rfl rfl (Nat.zero_le _) dB_exact_8 (fun b => fB_carryAlone V n b x1) h (fun b w1 e1 l D dA hl => mB_carryAlone hl e1) (fun V n h => ?_)
  refine z_iconst (v := 0) C dB_exact_11 (by decide) ?_
  refine z_istore_n (lv' := [(3, .int (0 : Int32)), (2, va_rf t1), (0, va_rf (some a0)), (1, .int x1)]) (i := 3) C dB_exact_12 rfl (by decide) (by first | rfl | simp [zrfcat]) ?_
  refine z_sub [2, 1, 0] rfl ?_
  exact bB_exact_13 C M zF V n a0 t1 (0 : Int32) h
theorem mB_exact {l : Launch} {D : va_G} {dA : Nat → ClassId} {V : zV} {n : Nat} (hl : l.stackTraces = false) {a0 : Nat} {x1 : Int32} {w : zR} (h : fB_exact V n a0 x1 = some w) : z_Met l ⟨"BarrierMarks", "exact", "(I)Z"⟩ prog_1_method_19_code 4 (some .boolean) 8 125 (zc w) (zs w) [.ref a0, .int x1] D dA V n w := by exact z_ofZ hl (by decide) (Nat.le_of_ble_eq_true rfl) (fun x C M => bB_exact C M V n a0 x1 h)
/-! BarrierMarks.held(I)I -/
def fB_held (V : zV) (n : Nat) (a0 : Nat) (x1 : Int32) : Option zR :=
    (z_obj V (some a0) [5]).bind fun o => zcR (fB_channelAt V n o.1 x1) fun t1 V n =>
    (zgI V t1 [1, 2] 2).bind fun t2 =>
    zrI t2 V n
set_option maxHeartbeats 4000000 in
set_option maxRecDepth 100000 in
theorem bB_held {x : zX} {w : zR} (C : zC x prog_1_method_20_code "BarrierMarks" "held" 2 7 103 (some .int)) (M : zM x (zc w) (zs w)) : ∀ (V : zV) (n : Nat) (a0 : Nat) (x1 : Int32), fB_held V n a0 x1 = some w → zZ x 2 0 0 w V n 0 [(0, va_rf (some a0)), (1, .int x1)] [] := by
  intro V n a0 x1 h
  unfold fB_held at h
  refine z_aload_n C 0 dB_held_0 rfl rfl ?_
  refine z_iload_n C 1 dB_held_1 rfl rfl ?_
  refine z_vPR (ci := 5) C M zRmP [.int x1] cv_B_233 rfl (by decide) (by decide) rfl rfl (Nat.zero_le _) dB_held_2 (fun b => fB_channelAt V n b x1) h (fun b w1 e1 l D dA hl => mB_channelAt hl e1) (fun t1 V n h => ?_)
  refine z_getI C fl_B_195 dB_held_5 h (fun t2 h => ?_)
  exact z_iret C M (Nat.zero_le _) (Nat.zero_le _) dB_held_8 h
theorem mB_held {l : Launch} {D : va_G} {dA : Nat → ClassId} {V : zV} {n : Nat} (hl : l.stackTraces = false) {a0 : Nat} {x1 : Int32} {w : zR} (h : fB_held V n a0 x1 = some w) : z_Met l ⟨"BarrierMarks", "held", "(I)I"⟩ prog_1_method_20_code 2 (some .int) 7 103 (zc w) (zs w) [.ref a0, .int x1] D dA V n w := by exact z_ofZ hl (by decide) (Nat.le_of_ble_eq_true rfl) (fun x C M => bB_held C M V n a0 x1 h)
/-! BarrierMarks.waiting(I)I -/
def fB_waiting (V : zV) (n : Nat) (a0 : Nat) (x1 : Int32) : Option zR :=
    (z_obj V (some a0) [5]).bind fun o => zcR (fB_channelAt V n o.1 x1) fun t1 V n =>
    (z_obj V t1 [1, 2]).bind fun o => zdI (if o.2.1 = 1 then fS_left V n o.1  else fL_left V n o.1 ) fun t2 V n =>
    zrI t2 V n
set_option maxHeartbeats 4000000 in
set_option maxRecDepth 100000 in
theorem bB_waiting {x : zX} {w : zR} (C : zC x prog_1_method_21_code "BarrierMarks" "waiting" 2 7 103 (some .int)) (M : zM x (zc w) (zs w)) : ∀ (V : zV) (n : Nat) (a0 : Nat) (x1 : Int32), fB_waiting V n a0 x1 = some w → zZ x 2 0 0 w V n 0 [(0, va_rf (some a0)), (1, .int x1)] [] := by
  intro V n a0 x1 h
  unfold fB_waiting at h
  refine z_aload_n C 0 dB_waiting_0 rfl rfl ?_
  refine z_iload_n C 1 dB_waiting_1 rfl rfl ?_
  refine z_vPR (ci := 5) C M zRmP [.int x1] cv_B_233 rfl (by decide) (by decide) rfl rfl (Nat.zero_le _) dB_waiting_2 (fun b => fB_channelAt V n b x1) h (fun b w1 e1 l D dA hl => mB_channelAt hl e1) (fun t1 V n h => ?_)
  refine z_aPI C M ⟨Nat.zero_le _, Nat.zero_le _⟩ [] ca_B_209_S ca_B_209_L rfl rfl (by decide) (by decide) (by decide) (by decide) rfl rfl (Nat.zero_le _) dB_waiting_5 (fun b => fS_left V n b ) (fun b => fL_left V n b ) h (fun b w1 e1 l D dA hl => mS_left hl e1) (fun b w1 e1 l D dA hl => mL_left hl e1) (fun t2 V n h => ?_)
  exact z_iret C M (Nat.zero_le _) (Nat.zero_le _) dB_waiting_8 h
theorem mB_waiting {l : Launch} {D : va_G} {dA : Nat → ClassId} {V : zV} {n : Nat} (hl : l.stackTraces = false) {a0 : Nat} {x1 : Int32} {w : zR} (h : fB_waiting V n a0 x1 = some w) : z_Met l ⟨"BarrierMarks", "waiting", "(I)I"⟩ prog_1_method_21_code 2 (some .int) 7 103 (zc w) (zs w) [.ref a0, .int x1] D dA V n w := by exact z_ofZ hl (by decide) (Nat.le_of_ble_eq_true rfl) (fun x C M => bB_waiting C M V n a0 x1 h)
/-! BarrierMarks.lineWith(II)LBarrierMarks$Line; -/
def fB_lineWith (V : zV) (n : Nat) (a0 : Nat) (x1 : Int32) (x2 : Int32) : Option zR :=
    (z_obj V (some a0) [5]).bind fun o => zcR (fB_channelAt V n o.1 x1) fun t1 V n =>
    (zinst V t1 [1, 2] 2).bind fun t2 =>
    if t2 = 0 then (
    zth "java/lang/IndexOutOfBoundsException" V n) else (
    (z_obj V t1 [2]).bind fun _ =>
    if x2 < 0 then (
    zth "java/lang/IndexOutOfBoundsException" V n) else (
    (zgI V t1 [2] 6).bind fun t3 =>
    if t3 ≤ x2 then (
    zth "java/lang/IndexOutOfBoundsException" V n) else (
    zrR t1 V n)))
set_option maxHeartbeats 4000000 in
set_option maxRecDepth 100000 in
theorem bB_lineWith {x : zX} {w : zR} (C : zC x prog_1_method_28_code "BarrierMarks" "lineWith" 5 7 103 (some (.object "BarrierMarks$Line"))) (M : zM x (zc w) (zs w)) : ∀ (V : zV) (n : Nat) (a0 : Nat) (x1 : Int32) (x2 : Int32), fB_lineWith V n a0 x1 x2 = some w → zZ x 5 0 0 w V n 0 [(0, va_rf (some a0)), (1, .int x1), (2, .int x2)] [] := by
  intro V n a0 x1 x2 h
  unfold fB_lineWith at h
  refine z_aload_n C 0 dB_lineWith_0 rfl rfl ?_
  refine z_iload_n C 1 dB_lineWith_1 rfl rfl ?_
  refine z_vPR (ci := 5) C M zRmP [.int x1] cv_B_233 rfl (by decide) (by decide) rfl rfl (Nat.zero_le _) dB_lineWith_2 (fun b => fB_channelAt V n b x1) h (fun b w1 e1 l D dA hl => mB_channelAt hl e1) (fun t1 V n h => ?_)
  refine z_astore (lv' := [(4, va_rf t1), (0, va_rf (some a0)), (1, .int x1), (2, .int x2)]) C dB_lineWith_5 (by decide) rfl ?_
  refine z_aload C 0 dB_lineWith_7 rfl ?_
  refine z_inst C nl_B_92 io_2 dB_lineWith_9 h (fun t2 h => ?_)
  refine z_if_eq C 35 dB_lineWith_12 (by decide) h (fun h => ?_) (fun h => ?_)
  · obtain rfl := Option.some.inj h
    exact z_throwSW C M th_B_265_240 (by decide) (by decide) (Nat.le_refl _) (Nat.le_refl _) dB_lineWith_35 dB_lineWith_38 dB_lineWith_39 dB_lineWith_42 dB_lineWith_45 rfl
  · refine z_aload C 0 dB_lineWith_15 rfl ?_
    refine z_chk C nl_B_92 ck_2 dB_lineWith_17 h (fun _ h => ?_)
    refine z_astore_n (lv' := [(3, va_rf t1), (4, va_rf t1), (0, va_rf (some a0)), (1, .int x1), (2, .int x2)]) (i := 3) C dB_lineWith_20 rfl (by decide) rfl ?_
    refine z_iload_n C 4 dB_lineWith_21 rfl rfl ?_
    refine z_if_lt C 35 dB_lineWith_22 (by decide) h (fun h => ?_) (fun h => ?_)
    · obtain rfl := Option.some.inj h
      exact z_throwSW C M th_B_265_240 (by decide) (by decide) (Nat.le_refl _) (Nat.le_refl _) dB_lineWith_35 dB_lineWith_38 dB_lineWith_39 dB_lineWith_42 dB_lineWith_45 rfl
    · refine z_iload_n C 4 dB_lineWith_25 rfl rfl ?_
      refine z_aload_n C 0 dB_lineWith_26 rfl rfl ?_
      refine z_getI C fl_B_264 dB_lineWith_27 h (fun t3 h => ?_)
      refine z_icmp_ge C 35 dB_lineWith_30 (by decide) h (fun h => ?_) (fun h => ?_)
      · obtain rfl := Option.some.inj h
        exact z_throwSW C M th_B_265_240 (by decide) (by decide) (Nat.le_refl _) (Nat.le_refl _) dB_lineWith_35 dB_lineWith_38 dB_lineWith_39 dB_lineWith_42 dB_lineWith_45 rfl
      · refine z_aload_n C 0 dB_lineWith_33 rfl rfl ?_
        exact z_aret C M (Nat.zero_le _) (Nat.zero_le _) dB_lineWith_34 h
theorem mB_lineWith {l : Launch} {D : va_G} {dA : Nat → ClassId} {V : zV} {n : Nat} (hl : l.stackTraces = false) {a0 : Nat} {x1 : Int32} {x2 : Int32} {w : zR} (h : fB_lineWith V n a0 x1 x2 = some w) : z_Met l ⟨"BarrierMarks", "lineWith", "(II)LBarrierMarks$Line;"⟩ prog_1_method_28_code 5 (some (.object "BarrierMarks$Line")) 7 103 (zc w) (zs w) [.ref a0, .int x1, .int x2] D dA V n w := by exact z_ofZ hl (by decide) (Nat.le_of_ble_eq_true rfl) (fun x C M => bB_lineWith C M V n a0 x1 x2 h)
/-! BarrierMarks.kind(II)I -/
def fB_kind (V : zV) (n : Nat) (a0 : Nat) (x1 : Int32) (x2 : Int32) : Option zR :=
    (z_obj V (some a0) [5]).bind fun o => zcR (fB_lineWith V n o.1 x1 x2) fun t1 V n =>
    (zgR V t1 [2] 4).bind fun t2 =>
    (zaI V t2 0 x2).bind fun t3 =>
    zrI t3 V n
set_option maxHeartbeats 4000000 in
set_option maxRecDepth 100000 in
theorem bB_kind {x : zX} {w : zR} (C : zC x prog_1_method_22_code "BarrierMarks" "kind" 3 8 127 (some .int)) (M : zM x (zc w) (zs w)) : ∀ (V : zV) (n : Nat) (a0 : Nat) (x1 : Int32) (x2 : Int32), fB_kind V n a0 x1 x2 = some w → zZ x 3 0 0 w V n 0 [(0, va_rf (some a0)), (1, .int x1), (2, .int x2)] [] := by
  intro V n a0 x1 x2 h
  unfold fB_kind at h
  refine z_aload_n C 0 dB_kind_0 rfl rfl ?_
  refine z_iload_n C 1 dB_kind_1 rfl rfl ?_
  refine z_iload_n C 2 dB_kind_2 rfl rfl ?_
  refine z_vPR (ci := 5) C M zRmP [.int x1, .int x2] cv_B_248 rfl (by decide) (by decide) rfl rfl (Nat.zero_le _) dB_kind_3 (fun b => fB_lineWith V n b x1 x2) h (fun b w1 e1 l D dA hl => mB_lineWith hl e1) (fun t1 V n h => ?_)
  refine z_getR C fl_B_252 dB_kind_6 h (fun t2 h => ?_)
  refine z_iload_n C 2 dB_kind_9 rfl rfl ?_
  refine z_iald C rfl dB_kind_10 h (fun t3 h => ?_)
  exact z_iret C M (Nat.zero_le _) (Nat.zero_le _) dB_kind_11 h
theorem mB_kind {l : Launch} {D : va_G} {dA : Nat → ClassId} {V : zV} {n : Nat} (hl : l.stackTraces = false) {a0 : Nat} {x1 : Int32} {x2 : Int32} {w : zR} (h : fB_kind V n a0 x1 x2 = some w) : z_Met l ⟨"BarrierMarks", "kind", "(II)I"⟩ prog_1_method_22_code 3 (some .int) 8 127 (zc w) (zs w) [.ref a0, .int x1, .int x2] D dA V n w := by exact z_ofZ hl (by decide) (Nat.le_of_ble_eq_true rfl) (fun x C M => bB_kind C M V n a0 x1 x2 h)
/-! BarrierMarks.value(II)J -/
def fB_value (V : zV) (n : Nat) (a0 : Nat) (x1 : Int32) (x2 : Int32) : Option zR :=
    (z_obj V (some a0) [5]).bind fun o => zcR (fB_lineWith V n o.1 x1 x2) fun t1 V n =>
    (zgR V t1 [2] 5).bind fun t2 =>
    (zaL V t2 1 x2).bind fun t3 =>
    zrL t3 V n
set_option maxHeartbeats 4000000 in
set_option maxRecDepth 100000 in
theorem bB_value {x : zX} {w : zR} (C : zC x prog_1_method_23_code "BarrierMarks" "value" 3 8 127 (some .long)) (M : zM x (zc w) (zs w)) : ∀ (V : zV) (n : Nat) (a0 : Nat) (x1 : Int32) (x2 : Int32), fB_value V n a0 x1 x2 = some w → zZ x 3 0 0 w V n 0 [(0, va_rf (some a0)), (1, .int x1), (2, .int x2)] [] := by
  intro V n a0 x1 x2 h
  unfold fB_value at h
  refine z_aload_n C 0 dB_value_0 rfl rfl ?_
  refine z_iload_n C 1 dB_value_1 rfl rfl ?_
  refine z_iload_n C 2 dB_value_2 rfl rfl ?_
  refine z_vPR (ci := 5) C M zRmP [.int x1, .int x2] cv_B_248 rfl (by decide) (by decide) rfl rfl (Nat.zero_le _) dB_value_3 (fun b => fB_lineWith V n b x1 x2) h (fun b w1 e1 l D dA hl => mB_lineWith hl e1) (fun t1 V n h => ?_)
  refine z_getR C fl_B_255 dB_value_6 h (fun t2 h => ?_)
  refine z_iload_n C 2 dB_value_9 rfl rfl ?_
  refine z_lald C rfl dB_value_10 h (fun t3 h => ?_)
  exact z_lret C M (Nat.zero_le _) (Nat.zero_le _) dB_value_11 h
theorem mB_value {l : Launch} {D : va_G} {dA : Nat → ClassId} {V : zV} {n : Nat} (hl : l.stackTraces = false) {a0 : Nat} {x1 : Int32} {x2 : Int32} {w : zR} (h : fB_value V n a0 x1 x2 = some w) : z_Met l ⟨"BarrierMarks", "value", "(II)J"⟩ prog_1_method_23_code 3 (some .long) 8 127 (zc w) (zs w) [.ref a0, .int x1, .int x2] D dA V n w := by exact z_ofZ hl (by decide) (Nat.le_of_ble_eq_true rfl) (fun x C M => bB_value C M V n a0 x1 x2 h)
/-! BarrierMarks.told(I)I -/
def fB_told (V : zV) (n : Nat) (a0 : Nat) (x1 : Int32) : Option zR :=
    zsw x1 4 (fun i9 => match i9 with
      | 0 => (
    (zgI V (some a0) [5] 6).bind fun t1 =>
    zrI t1 V n)
      | 1 => (
    (zgI V (some a0) [5] 7).bind fun t2 =>
    zrI t2 V n)
      | 2 => (
    (zgR V (some a0) [5] 3).bind fun t3 =>
    (zgI V t3 [0] 3).bind fun t4 =>
    zrI t4 V n)
      | _ => (
    (zgI V (some a0) [5] 8).bind fun t5 =>
    zrI t5 V n)) (
    zth "java/lang/IllegalArgumentException" V n)
set_option maxHeartbeats 4000000 in
set_option maxRecDepth 100000 in
theorem bB_told {x : zX} {w : zR} (C : zC x prog_1_method_24_code "BarrierMarks" "told" 2 6 82 (some .int)) (M : zM x (zc w) (zs w)) : ∀ (V : zV) (n : Nat) (a0 : Nat) (x1 : Int32), fB_told V n a0 x1 = some w → zZ x 2 0 0 w V n 0 [(0, va_rf (some a0)), (1, .int x1)] [] := by
  intro V n a0 x1 h
  unfold fB_told at h
  refine z_iload_n C 1 dB_told_0 rfl rfl ?_
  refine z_tsw (N := 4) C rfl (by decide) dB_told_1 55 (by decide) (fun i => match i with | 0 => 32 | 1 => 37 | 2 => 42 | _ => 50) (fun i hi => by rcases (show i = 0 ∨ i = 1 ∨ i = 2 ∨ i = 3 by omega) with rfl | rfl | rfl | rfl <;> exact ⟨_, rfl, by decide⟩) h (fun h => ?_) (fun i hi hv h => ?_)
  · obtain rfl := Option.some.inj h
    exact z_throwSW C M th_B_258_87 (by decide) (by decide) (Nat.le_refl _) (Nat.le_refl _) dB_told_55 dB_told_58 dB_told_59 dB_told_62 dB_told_65 rfl
  · rcases (show i = 0 ∨ i = 1 ∨ i = 2 ∨ i = 3 by omega) with rfl | rfl | rfl | rfl
    · refine z_aload_n C 0 dB_told_32 rfl rfl ?_
      refine z_getI C fl_B_62 dB_told_33 h (fun t1 h => ?_)
      exact z_iret C M (Nat.zero_le _) (Nat.zero_le _) dB_told_36 h
    · refine z_aload_n C 0 dB_told_37 rfl rfl ?_
      refine z_getI C fl_B_122 dB_told_38 h (fun t2 h => ?_)
      exact z_iret C M (Nat.zero_le _) (Nat.zero_le _) dB_told_41 h
    · refine z_aload_n C 0 dB_told_42 rfl rfl ?_
      refine z_getR C fl_B_24 dB_told_43 h (fun t3 h => ?_)
      refine z_getI C fl_B_172 dB_told_46 h (fun t4 h => ?_)
      exact z_iret C M (Nat.zero_le _) (Nat.zero_le _) dB_told_49 h
    · refine z_aload_n C 0 dB_told_50 rfl rfl ?_
      refine z_getI C fl_B_119 dB_told_51 h (fun t5 h => ?_)
      exact z_iret C M (Nat.zero_le _) (Nat.zero_le _) dB_told_54 h
theorem mB_told {l : Launch} {D : va_G} {dA : Nat → ClassId} {V : zV} {n : Nat} (hl : l.stackTraces = false) {a0 : Nat} {x1 : Int32} {w : zR} (h : fB_told V n a0 x1 = some w) : z_Met l ⟨"BarrierMarks", "told", "(I)I"⟩ prog_1_method_24_code 2 (some .int) 6 82 (zc w) (zs w) [.ref a0, .int x1] D dA V n w := by exact z_ofZ hl (by decide) (Nat.le_of_ble_eq_true rfl) (fun x C M => bB_told C M V n a0 x1 h)
