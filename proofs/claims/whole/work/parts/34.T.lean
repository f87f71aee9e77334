/-! BarrierMarks$Task.<init>(I)V -/
def fT_init (V : zV) (n : Nat) (a0 : Nat) (x1 : Int32) : Option zR :=
    znwa V n 4 16 (16 : Int32) (.inr (.inr (.inr (.inr (fun _ => none))))) fun t1 V n =>
    (zpR V (some a0) [4] 1 (some t1)).bind fun V =>
    znwa V n 5 16 (16 : Int32) (.inr (.inr (.inr (.inr (fun _ => none))))) fun t2 V n =>
    (zpR V (some a0) [4] 2 (some t2)).bind fun V =>
    (zpI V (some a0) [4] 0 x1).bind fun V =>
    zrV V n
set_option maxHeartbeats 4000000 in
set_option maxRecDepth 100000 in
theorem bT_init {x : zX} {w : zR} (C : zC x prog_7_method_1_code "BarrierMarks$Task" "<init>" 2 1 12 none) (M : zM x 2 32) : ∀ (V : zV) (n : Nat) (a0 : Nat) (x1 : Int32), fT_init V n a0 x1 = some w → zZ x 2 0 0 w V n 0 [(0, va_rf (some a0)), (1, .int x1)] [] := by
  intro V n a0 x1 h
  unfold fT_init at h
  refine z_aload_n C 0 dT_init_0 rfl rfl ?_
  refine z_objInit C ol_T_3 oi_ oc_ (by decide) (by first | decide | (simp [zrfcat, zicat, zlcat]; done)) dT_init_1 ?_
  refine z_aload_n C 0 dT_init_4 rfl rfl ?_
  refine z_bipush (v := 16) C dT_init_5 (by decide) ?_
  refine z_anewK C M rfl nl_T_9 (by decide +kernel) (by decide) (by decide) (by decide) dT_init_7 h (fun t1 V n h => ?_)
  refine z_putR C pf_T_11 zfitA (fun _ => rfl) dT_init_10 h (fun V h => ?_)
  refine z_aload_n C 0 dT_init_13 rfl rfl ?_
  refine z_bipush (v := 16) C dT_init_14 (by decide) ?_
  refine z_anewK C M rfl nl_T_17 (by decide +kernel) (by decide) (by decide) (by decide) dT_init_16 h (fun t2 V n h => ?_)
  refine z_putR C pf_T_19 zfitA (fun _ => rfl) dT_init_19 h (fun V h => ?_)
  refine z_aload_n C 0 dT_init_22 rfl rfl ?_
  refine z_iload_n C 1 dT_init_23 rfl rfl ?_
  refine z_putI C pf_T_23 (fun _ => rfl) dT_init_24 h (fun V h => ?_)
  exact z_vret C M (by decide) (by decide) dT_init_27 h
theorem mT_init {l : Launch} {D : va_G} {dA : Nat → ClassId} {V : zV} {n : Nat} (hl : l.stackTraces = false) {a0 : Nat} {x1 : Int32} {w : zR} (h : fT_init V n a0 x1 = some w) : z_Met l ⟨"BarrierMarks$Task", "<init>", "(I)V"⟩ prog_7_method_1_code 2 none 1 12 2 32 [.ref a0, .int x1] D dA V n w := by exact z_ofZ hl (by decide) (Nat.le_of_ble_eq_true rfl) (fun x C M => bT_init C M V n a0 x1 h)
/-! BarrierMarks$Task.addInto(LBarrierMarks$Channel;)V -/
def fT_addInto (V : zV) (n : Nat) (a0 : Nat) (x1 : Option Nat) : Option zR :=
    (zgI V (some a0) [4] 3).bind fun t1 =>
    (zgR V (some a0) [4] 1).bind fun t2 =>
    (zalen V t2 4).bind fun t3 =>
    if t3 ≤ t1 then (
    zrV V n) else (
    (zgR V (some a0) [4] 1).bind fun t4 =>
    (zgI V (some a0) [4] 3).bind fun t5 =>
    (zsR V t4 4 [1, 2] t5 x1).bind fun V =>
    (zgI V (some a0) [4] 3).bind fun t6 =>
    (zpI V (some a0) [4] 3 ((t6 + (1 : Int32)))).bind fun V =>
    zrV V n)
set_option maxHeartbeats 4000000 in
set_option maxRecDepth 100000 in
theorem bT_addInto {x : zX} {w : zR} (C : zC x prog_7_method_2_code "BarrierMarks$Task" "addInto" 2 0 0 none) (M : zM x (zc w) (zs w)) : ∀ (V : zV) (n : Nat) (a0 : Nat) (x1 : Option Nat), fT_addInto V n a0 x1 = some w → zZ x 2 0 0 w V n 0 [(0, va_rf (some a0)), (1, va_rf x1)] [] := by
  intro V n a0 x1 h
  unfold fT_addInto at h
  refine z_aload_n C 0 dT_addInto_0 rfl rfl ?_
  refine z_getI C fl_T_27 dT_addInto_1 h (fun t1 h => ?_)
  refine z_aload_n C 0 dT_addInto_4 rfl rfl ?_
  refine z_getR C fl_T_11 dT_addInto_5 h (fun t2 h => ?_)
  refine z_alen C rfl dT_addInto_8 h (fun t3 h => ?_)
  refine z_icmp_ge C 32 dT_addInto_9 (by decide) h (fun h => ?_) (fun h => ?_)
  · exact z_vret C M (Nat.zero_le _) (Nat.zero_le _) dT_addInto_32 h
  · refine z_aload_n C 0 dT_addInto_12 rfl rfl ?_
    refine z_getR C fl_T_11 dT_addInto_13 h (fun t4 h => ?_)
    refine z_aload_n C 0 dT_addInto_16 rfl rfl ?_
    refine z_getI C fl_T_27 dT_addInto_17 h (fun t5 h => ?_)
    refine z_aload_n C 1 dT_addInto_20 rfl rfl ?_
    refine z_aast C rfl ae_4 dT_addInto_21 h (fun V h => ?_)
    refine z_aload_n C 0 dT_addInto_22 rfl rfl ?_
    refine z_dup C dT_addInto_23 (zrfcat _) ?_
    refine z_getI C fl_T_27 dT_addInto_24 h (fun t6 h => ?_)
    refine z_iconst (v := 1) C dT_addInto_27 (by decide) ?_
    refine z_iadd C dT_addInto_28 ?_
    refine z_putI C pf_T_27 (fun h => absurd h (by decide)) dT_addInto_29 h (fun V h => ?_)
    exact z_vret C M (Nat.zero_le _) (Nat.zero_le _) dT_addInto_32 h
theorem mT_addInto {l : Launch} {D : va_G} {dA : Nat → ClassId} {V : zV} {n : Nat} (hl : l.stackTraces = false) {a0 : Nat} {x1 : Option Nat} {w : zR} (h : fT_addInto V n a0 x1 = some w) : z_Met l ⟨"BarrierMarks$Task", "addInto", "(LBarrierMarks$Channel;)V"⟩ prog_7_method_2_code 2 none 0 0 (zc w) (zs w) [.ref a0, va_rf x1] D dA V n w := by cases x1 <;> exact z_ofZ hl (by decide) (Nat.le_of_ble_eq_true rfl) (fun x C M => bT_addInto C M V n a0 _ h)
/-! BarrierMarks$Task.addOut(LBarrierMarks$Line;)V -/
def fT_addOut (V : zV) (n : Nat) (a0 : Nat) (x1 : Option Nat) : Option zR :=
    (zgI V (some a0) [4] 4).bind fun t1 =>
    (zgR V (some a0) [4] 2).bind fun t2 =>
    (zalen V t2 5).bind fun t3 =>
    if t3 ≤ t1 then (
    zrV V n) else (
    (zgR V (some a0) [4] 2).bind fun t4 =>
    (zgI V (some a0) [4] 4).bind fun t5 =>
    (zsR V t4 5 [2] t5 x1).bind fun V =>
    (zgI V (some a0) [4] 4).bind fun t6 =>
    (zpI V (some a0) [4] 4 ((t6 + (1 : Int32)))).bind fun V =>
    zrV V n)
set_option maxHeartbeats 4000000 in
set_option maxRecDepth 100000 in
theorem bT_addOut {x : zX} {w : zR} (C : zC x prog_7_method_3_code "BarrierMarks$Task" "addOut" 2 0 0 none) (M : zM x (zc w) (zs w)) : ∀ (V : zV) (n : Nat) (a0 : Nat) (x1 : Option Nat), fT_addOut V n a0 x1 = some w → zZ x 2 0 0 w V n 0 [(0, va_rf (some a0)), (1, va_rf x1)] [] := by
  intro V n a0 x1 h
  unfold fT_addOut at h
  refine z_aload_n C 0 dT_addOut_0 rfl rfl ?_
  refine z_getI C fl_T_30 dT_addOut_1 h (fun t1 h => ?_)
  refine z_aload_n C 0 dT_addOut_4 rfl rfl ?_
  refine z_getR C fl_T_19 dT_addOut_5 h (fun t2 h => ?_)
  refine z_alen C rfl dT_addOut_8 h (fun t3 h => ?_)
  refine z_icmp_ge C 32 dT_addOut_9 (by decide) h (fun h => ?_) (fun h => ?_)
  · exact z_vret C M (Nat.zero_le _) (Nat.zero_le _) dT_addOut_32 h
  · refine z_aload_n C 0 dT_addOut_12 rfl rfl ?_
    refine z_getR C fl_T_19 dT_addOut_13 h (fun t4 h => ?_)
    refine z_aload_n C 0 dT_addOut_16 rfl rfl ?_
    refine z_getI C fl_T_30 dT_addOut_17 h (fun t5 h => ?_)
    refine z_aload_n C 1 dT_addOut_20 rfl rfl ?_
    refine z_aast C rfl ae_5 dT_addOut_21 h (fun V h => ?_)
    refine z_aload_n C 0 dT_addOut_22 rfl rfl ?_
    refine z_dup C dT_addOut_23 (zrfcat _) ?_
    refine z_getI C fl_T_30 dT_addOut_24 h (fun t6 h => ?_)
    refine z_iconst (v := 1) C dT_addOut_27 (by decide) ?_
    refine z_iadd C dT_addOut_28 ?_
    refine z_putI C pf_T_30 (fun h => absurd h (by decide)) dT_addOut_29 h (fun V h => ?_)
    exact z_vret C M (Nat.zero_le _) (Nat.zero_le _) dT_addOut_32 h
theorem mT_addOut {l : Launch} {D : va_G} {dA : Nat → ClassId} {V : zV} {n : Nat} (hl : l.stackTraces = false) {a0 : Nat} {x1 : Option Nat} {w : zR} (h : fT_addOut V n a0 x1 = some w) : z_Met l ⟨"BarrierMarks$Task", "addOut", "(LBarrierMarks$Line;)V"⟩ prog_7_method_3_code 2 none 0 0 (zc w) (zs w) [.ref a0, va_rf x1] D dA V n w := by cases x1 <;> exact z_ofZ hl (by decide) (Nat.le_of_ble_eq_true rfl) (fun x C M => bT_addOut C M V n a0 _ h)
/-! BarrierMarks$Task.hasOpen()Z -/
def fT_hasOpen_37 (K2 : zV → Nat → Nat → Int32 → Option zR) (V : zV) (n : Nat) (a0 : Nat) (x1 : Int32) : Option zR :=
    K2 V n a0 (x1 + 1)
set_option maxHeartbeats 4000000 in
set_option maxRecDepth 100000 in
theorem bT_hasOpen_37 {x : zX} {w : zR} {K2 : zV → Nat → Nat → Int32 → Option zR} (C : zC x prog_7_method_4_code "BarrierMarks$Task" "hasOpen" 2 0 0 (some .boolean)) (M : zM x (zc w) (zs w)) (hK2 : ∀ (V : zV) (n : Nat) (a0 : Nat) (x1 : Int32), K2 V n a0 x1 = some w → zZ x 2 0 0 w V n 2 [(0, va_rf (some a0)), (1, .int x1)] []) : ∀ (V : zV) (n : Nat) (a0 : Nat) (x1 : Int32), fT_hasOpen_37 K2 V n a0 x1 = some w → zZ x 2 0 0 w V n 37 [(0, va_rf (some a0)), (1, .int x1)] [] := by
  intro V n a0 x1 h
  unfold fT_hasOpen_37 at h
  refine z_iinc (lv' := [(1, .int (x1 + 1)), (0, va_rf (some a0))]) C 1 dT_hasOpen_37 rfl rfl (by decide) rfl ?_
  refine z_goto C 2 dT_hasOpen_40 (by decide) ?_
  refine z_sub [1, 0] rfl ?_
  exact hK2 V n a0 (x1 + 1) h
def fT_hasOpen_2 : Nat → zV → Nat → Nat → Int32 → Option zR
  | 0 => fun _ _ _ _ => none
  | f9 + 1 => fun V n a0 x1 =>
    (zgI V (some a0) [4] 3).bind fun t1 =>
    if t1 ≤ x1 then (
    zrZ (0 : Int32) V n) else (
    (zgR V (some a0) [4] 1).bind fun t2 =>
    (zaR V t2 4 x1).bind fun t3 =>
    (zgI V t3 [1, 2] 2).bind fun t4 =>
    if t4 = (-1 : Int32) then (
    (zgR V (some a0) [4] 1).bind fun t5 =>
    (zaR V t5 4 x1).bind fun t6 =>
    (zgI V t6 [1, 2] 3).bind fun t7 =>
    if t7 = 0 then (
    zrZ (1 : Int32) V n) else (
    fT_hasOpen_37 (fT_hasOpen_2 f9) V n a0 x1)) else (
    fT_hasOpen_37 (fT_hasOpen_2 f9) V n a0 x1))
set_option maxHeartbeats 4000000 in
set_option maxRecDepth 100000 in
theorem bT_hasOpen_2 {x : zX} {w : zR} (C : zC x prog_7_method_4_code "BarrierMarks$Task" "hasOpen" 2 0 0 (some .boolean)) (M : zM x (zc w) (zs w)) : ∀ (f9 : Nat) (V : zV) (n : Nat) (a0 : Nat) (x1 : Int32), fT_hasOpen_2 f9 V n a0 x1 = some w → zZ x 2 0 0 w V n 2 [(0, va_rf (some a0)), (1, .int x1)] [] := by
  intro f9
  induction f9 with
  | zero =>
    intro V n a0 x1 h
    cases h
  | succ f9 ih =>
    intro V n a0 x1 h
    unfold fT_hasOpen_2 at h
    refine z_iload_n C 1 dT_hasOpen_2 rfl rfl ?_
    refine z_aload_n C 0 dT_hasOpen_3 rfl rfl ?_
    refine z_getI C fl_T_27 dT_hasOpen_4 h (fun t1 h => ?_)
    refine z_icmp_ge C 43 dT_hasOpen_7 (by decide) h (fun h => ?_) (fun h => ?_)
    · refine z_iconst (v := 0) C dT_hasOpen_43 (by decide) ?_
      exact z_zret C M (Nat.zero_le _) (Nat.zero_le _) dT_hasOpen_44 h
    · refine z_aload_n C 0 dT_hasOpen_10 rfl rfl ?_
      refine z_getR C fl_T_11 dT_hasOpen_11 h (fun t2 h => ?_)
      refine z_iload_n C 1 dT_hasOpen_14 rfl rfl ?_
      refine z_aald C rfl dT_hasOpen_15 h (fun t3 h => ?_)
      refine z_getI C fl_T_33 dT_hasOpen_16 h (fun t4 h => ?_)
      refine z_iconst (v := (-1)) C dT_hasOpen_19 (by decide) ?_
      refine z_icmp_ne C 37 dT_hasOpen_20 (by decide) h (fun h => ?_) (fun h => ?_)
      · exact bT_hasOpen_37 C M ih V n a0 x1 h
      · refine z_aload_n C 0 dT_hasOpen_23 rfl rfl ?_
        refine z_getR C fl_T_11 dT_hasOpen_24 h (fun t5 h => ?_)
        refine z_iload_n C 1 dT_hasOpen_27 rfl rfl ?_
        refine z_aald C rfl dT_hasOpen_28 h (fun t6 h => ?_)
        refine z_getI C fl_T_36 dT_hasOpen_29 h (fun t7 h => ?_)
        refine z_if_ne C 37 dT_hasOpen_32 (by decide) h (fun h => ?_) (fun h => ?_)
        · exact bT_hasOpen_37 C M ih V n a0 x1 h
        · refine z_iconst (v := 1) C dT_hasOpen_35 (by decide) ?_
          exact z_zret C M (Nat.zero_le _) (Nat.zero_le _) dT_hasOpen_36 h
def fT_hasOpen (V : zV) (n : Nat) (a0 : Nat) : Option zR :=
    fT_hasOpen_2 zF V n a0 (0 : Int32)
set_option maxHeartbeats 4000000 in
set_option maxRecDepth 100000 in
theorem bT_hasOpen {x : zX} {w : zR} (C : zC x prog_7_method_4_code "BarrierMarks$Task" "hasOpen" 2 0 0 (some .boolean)) (M : zM x (zc w) (zs w)) : ∀ (V : zV) (n : Nat) (a0 : Nat), fT_hasOpen V n a0 = some w → zZ x 2 0 0 w V n 0 [(0, va_rf (some a0))] [] := by
  intro V n a0 h
  unfold fT_hasOpen at h
  refine z_iconst (v := 0) C dT_hasOpen_0 (by decide) ?_
  refine z_istore_n (lv' := [(1, .int (0 : Int32)), (0, va_rf (some a0))]) (i := 1) C dT_hasOpen_1 rfl (by decide) rfl ?_
  refine z_sub [1, 0] rfl ?_
  exact bT_hasOpen_2 C M zF V n a0 (0 : Int32) h
theorem mT_hasOpen {l : Launch} {D : va_G} {dA : Nat → ClassId} {V : zV} {n : Nat} (hl : l.stackTraces = false) {a0 : Nat} {w : zR} (h : fT_hasOpen V n a0 = some w) : z_Met l ⟨"BarrierMarks$Task", "hasOpen", "()Z"⟩ prog_7_method_4_code 2 (some .boolean) 0 0 (zc w) (zs w) [.ref a0] D dA V n w := by exact z_ofZ hl (by decide) (Nat.le_of_ble_eq_true rfl) (fun x C M => bT_hasOpen C M V n a0 h)
/-! BarrierMarks$Task.nextOffer()I -/
def fT_nextOffer_60 (K2 : zV → Nat → Nat → Int32 → Option zR) (V : zV) (n : Nat) (a0 : Nat) (x1 : Int32) : Option zR :=
    K2 V n a0 (x1 + 1)
set_option maxHeartbeats 4000000 in
set_option maxRecDepth 100000 in
theorem bT_nextOffer_60 {x : zX} {w : zR} {K2 : zV → Nat → Nat → Int32 → Option zR} (C : zC x prog_7_method_7_code "BarrierMarks$Task" "nextOffer" 3 2 40 (some .int)) (M : zM x (zc w) (zs w)) (hK2 : ∀ (V : zV) (n : Nat) (a0 : Nat) (x1 : Int32), K2 V n a0 x1 = some w → zZ x 3 0 0 w V n 2 [(0, va_rf (some a0)), (1, .int x1)] []) : ∀ (V : zV) (n : Nat) (a0 : Nat) (x1 : Int32), fT_nextOffer_60 K2 V n a0 x1 = some w → zZ x 3 0 0 w V n 60 [(0, va_rf (some a0)), (1, .int x1)] [] := by
  intro V n a0 x1 h
  unfold fT_nextOffer_60 at h
  refine z_iinc (lv' := [(1, .int (x1 + 1)), (0, va_rf (some a0))]) C 1 dT_nextOffer_60 rfl rfl (by decide) rfl ?_
  refine z_goto C 2 dT_nextOffer_63 (by decide) ?_
  refine z_sub [1, 0] rfl ?_
  exact hK2 V n a0 (x1 + 1) h
def fT_nextOffer_32 (K2 : zV → Nat → Nat → Int32 → Option zR) (V : zV) (n : Nat) (a0 : Nat) (x1 : Int32) (x2 : Int32) : Option zR :=
    (zgR V (some a0) [4] 1).bind fun t1 =>
    (zaR V t1 4 x2).bind fun t2 =>
    (zgI V t2 [1, 2] 2).bind fun t3 =>
    if t3 = (-1 : Int32) then (
    (zgR V (some a0) [4] 1).bind fun t4 =>
    (zaR V t4 4 x2).bind fun t5 =>
    (z_obj V t5 [1, 2]).bind fun o => zdI (if o.2.1 = 1 then fS_nextKind V n o.1  else fL_nextKind V n o.1 ) fun t6 V n =>
    if t6 = (-1 : Int32) then (
    fT_nextOffer_60 K2 V n a0 x1) else (
    zrI x2 V n)) else (
    fT_nextOffer_60 K2 V n a0 x1)
set_option maxHeartbeats 4000000 in
set_option maxRecDepth 100000 in
theorem bT_nextOffer_32 {x : zX} {w : zR} {K2 : zV → Nat → Nat → Int32 → Option zR} (C : zC x prog_7_method_7_code "BarrierMarks$Task" "nextOffer" 3 2 40 (some .int)) (M : zM x (zc w) (zs w)) (hK2 : ∀ (V : zV) (n : Nat) (a0 : Nat) (x1 : Int32), K2 V n a0 x1 = some w → zZ x 3 0 0 w V n 2 [(0, va_rf (some a0)), (1, .int x1)] []) : ∀ (V : zV) (n : Nat) (a0 : Nat) (x1 : Int32) (x2 : Int32), fT_nextOffer_32 K2 V n a0 x1 x2 = some w → zZ x 3 0 0 w V n 32 [(0, va_rf (some a0)), (1, .int x1), (2, .int x2)] [] := by
  intro V n a0 x1 x2 h
  unfold fT_nextOffer_32 at h
  refine z_aload_n C 0 dT_nextOffer_32 rfl rfl ?_
  refine z_getR C fl_T_11 dT_nextOffer_33 h (fun t1 h => ?_)
  refine z_iload_n C 2 dT_nextOffer_36 rfl rfl ?_
  refine z_aald C rfl dT_nextOffer_37 h (fun t2 h => ?_)
  refine z_getI C fl_T_33 dT_nextOffer_38 h (fun t3 h => ?_)
  refine z_iconst (v := (-1)) C dT_nextOffer_41 (by decide) ?_
  refine z_icmp_ne C 60 dT_nextOffer_42 (by decide) h (fun h => ?_) (fun h => ?_)
  · refine z_sub [0, 1] rfl ?_
    exact bT_nextOffer_60 C M hK2 V n a0 x1 h
  · refine z_aload_n C 0 dT_nextOffer_45 rfl rfl ?_
    refine z_getR C fl_T_11 dT_nextOffer_46 h (fun t4 h => ?_)
    refine z_iload_n C 2 dT_nextOffer_49 rfl rfl ?_
    refine z_aald C rfl dT_nextOffer_50 h (fun t5 h => ?_)
    refine z_aPI C M ⟨Nat.zero_le _, Nat.zero_le _⟩ [] ca_T_43_S ca_T_43_L rfl rfl (by decide) (by decide) (by decide) (by decide) rfl rfl (Nat.zero_le _) dT_nextOffer_51 (fun b => fS_nextKind V n b ) (fun b => fL_nextKind V n b ) h (fun b w1 e1 l D dA hl => mS_nextKind hl e1) (fun b w1 e1 l D dA hl => mL_nextKind hl e1) (fun t6 V n h => ?_)
    refine z_iconst (v := (-1)) C dT_nextOffer_54 (by decide) ?_
    refine z_icmp_eq C 60 dT_nextOffer_55 (by decide) h (fun h => ?_) (fun h => ?_)
    · refine z_sub [0, 1] rfl ?_
      exact bT_nextOffer_60 C M hK2 V n a0 x1 h
    · refine z_iload_n C 2 dT_nextOffer_58 rfl rfl ?_
      exact z_iret C M (Nat.zero_le _) (Nat.zero_le _) dT_nextOffer_59 h
def fT_nextOffer_2 : Nat → zV → Nat → Nat → Int32 → Option zR
  | 0 => fun _ _ _ _ => none
  | f9 + 1 => fun V n a0 x1 =>
    (zgI V (some a0) [4] 3).bind fun t1 =>
    if t1 ≤ x1 then (
    zrI (-1 : Int32) V n) else (
    (zgI V (some a0) [4] 5).bind fun t2 =>
    (zgI V (some a0) [4] 3).bind fun t3 =>
    if (t2 + x1) < t3 then (
    fT_nextOffer_32 (fT_nextOffer_2 f9) V n a0 x1 (t2 + x1)) else (
    (zgI V (some a0) [4] 3).bind fun t4 =>
    fT_nextOffer_32 (fT_nextOffer_2 f9) V n a0 x1 (((t2 + x1) - t4))))
set_option maxHeartbeats 4000000 in
set_option maxRecDepth 100000 in
theorem bT_nextOffer_2 {x : zX} {w : zR} (C : zC x prog_7_method_7_code "BarrierMarks$Task" "nextOffer" 3 2 40 (some .int)) (M : zM x (zc w) (zs w)) : ∀ (f9 : Nat) (V : zV) (n : Nat) (a0 : Nat) (x1 : Int32), fT_nextOffer_2 f9 V n a0 x1 = some w → zZ x 3 0 0 w V n 2 [(0, va_rf (some a0)), (1, .int x1)] [] := by
  intro f9
  induction f9 with
  | zero =>
    intro V n a0 x1 h
    cases h
  | succ f9 ih =>
    intro V n a0 x1 h
    unfold fT_nextOffer_2 at h
    refine z_iload_n C 1 dT_nextOffer_2 rfl rfl ?_
    refine z_aload_n C 0 dT_nextOffer_3 rfl rfl ?_
    refine z_getI C fl_T_27 dT_nextOffer_4 h (fun t1 h => ?_)
    refine z_icmp_ge C 66 dT_nextOffer_7 (by decide) h (fun h => ?_) (fun h => ?_)
    · refine z_iconst (v := (-1)) C dT_nextOffer_66 (by decide) ?_
      exact z_iret C M (Nat.zero_le _) (Nat.zero_le _) dT_nextOffer_67 h
    · refine z_aload_n C 0 dT_nextOffer_10 rfl rfl ?_
      refine z_getI C fl_T_40 dT_nextOffer_11 h (fun t2 h => ?_)
      refine z_iload_n C 1 dT_nextOffer_14 rfl rfl ?_
      refine z_iadd C dT_nextOffer_15 ?_
      refine z_istore_n (lv' := [(2, .int (t2 + x1)), (0, va_rf (some a0)), (1, .int x1)]) (i := 2) C dT_nextOffer_16 rfl (by decide) rfl ?_
      refine z_iload_n C 0 dT_nextOffer_17 rfl rfl ?_
      refine z_aload_n C 1 dT_nextOffer_18 rfl rfl ?_
      refine z_getI C fl_T_27 dT_nextOffer_19 h (fun t3 h => ?_)
      refine z_icmp_lt C 32 dT_nextOffer_22 (by decide) h (fun h => ?_) (fun h => ?_)
      · refine z_sub [1, 2, 0] rfl ?_
        exact bT_nextOffer_32 C M ih V n a0 x1 (t2 + x1) h
      · refine z_iload_n C 0 dT_nextOffer_25 rfl rfl ?_
        refine z_aload_n C 1 dT_nextOffer_26 rfl rfl ?_
        refine z_getI C fl_T_27 dT_nextOffer_27 h (fun t4 h => ?_)
        refine z_isub C dT_nextOffer_30 ?_
        refine z_istore_n (lv' := [(2, .int ((t2 + x1) - t4)), (0, va_rf (some a0)), (1, .int x1)]) (i := 2) C dT_nextOffer_31 rfl (by decide) rfl ?_
        refine z_sub [1, 2, 0] rfl ?_
        exact bT_nextOffer_32 C M ih V n a0 x1 (((t2 + x1) - t4)) h
def fT_nextOffer (V : zV) (n : Nat) (a0 : Nat) : Option zR :=
    fT_nextOffer_2 zF V n a0 (0 : Int32)
set_option maxHeartbeats 4000000 in
set_option maxRecDepth 100000 in
theorem bT_nextOffer {x : zX} {w : zR} (C : zC x prog_7_method_7_code "BarrierMarks$Task" "nextOffer" 3 2 40 (some .int)) (M : zM x (zc w) (zs w)) : ∀ (V : zV) (n : Nat) (a0 : Nat), fT_nextOffer V n a0 = some w → zZ x 3 0 0 w V n 0 [(0, va_rf (some a0))] [] := by
  intro V n a0 h
  unfold fT_nextOffer at h
  refine z_iconst (v := 0) C dT_nextOffer_0 (by decide) ?_
  refine z_istore_n (lv' := [(1, .int (0 : Int32)), (0, va_rf (some a0))]) (i := 1) C dT_nextOffer_1 rfl (by decide) rfl ?_
  refine z_sub [1, 0] rfl ?_
  exact bT_nextOffer_2 C M zF V n a0 (0 : Int32) h
theorem mT_nextOffer {l : Launch} {D : va_G} {dA : Nat → ClassId} {V : zV} {n : Nat} (hl : l.stackTraces = false) {a0 : Nat} {w : zR} (h : fT_nextOffer V n a0 = some w) : z_Met l ⟨"BarrierMarks$Task", "nextOffer", "()I"⟩ prog_7_method_7_code 3 (some .int) 2 40 (zc w) (zs w) [.ref a0] D dA V n w := by exact z_ofZ hl (by decide) (Nat.le_of_ble_eq_true rfl) (fun x C M => bT_nextOffer C M V n a0 h)
/-! BarrierMarks$Task.hasCredits()Z -/
def fT_hasCredits_2 : Nat → zV → Nat → Nat → Int32 → Option zR
  | 0 => fun _ _ _ _ => none
  | f9 + 1 => fun V n a0 x1 =>
    (zgI V (some a0) [4] 4).bind fun t1 =>
    if t1 ≤ x1 then (
    zrZ (1 : Int32) V n) else (
    (zgR V (some a0) [4] 2).bind fun t2 =>
    (zaR V t2 5 x1).bind fun t3 =>
    (zgI V t3 [2] 6).bind fun t4 =>
    if t4 < (8 : Int32) then (
    (fT_hasCredits_2 f9) V n a0 (x1 + 1)) else (
    zrZ (0 : Int32) V n))
set_option maxHeartbeats 4000000 in
set_option maxRecDepth 100000 in
theorem bT_hasCredits_2 {x : zX} {w : zR} (C : zC x prog_7_method_9_code "BarrierMarks$Task" "hasCredits" 2 0 0 (some .boolean)) (M : zM x (zc w) (zs w)) : ∀ (f9 : Nat) (V : zV) (n : Nat) (a0 : Nat) (x1 : Int32), fT_hasCredits_2 f9 V n a0 x1 = some w → zZ x 2 0 0 w V n 2 [(0, va_rf (some a0)), (1, .int x1)] [] := by
  intro f9
  induction f9 with
  | zero =>
    intro V n a0 x1 h
    cases h
  | succ f9 ih =>
    intro V n a0 x1 h
    unfold fT_hasCredits_2 at h
    refine z_iload_n C 1 dT_hasCredits_2 rfl rfl ?_
    refine z_aload_n C 0 dT_hasCredits_3 rfl rfl ?_
    refine z_getI C fl_T_30 dT_hasCredits_4 h (fun t1 h => ?_)
    refine z_icmp_ge C 32 dT_hasCredits_7 (by decide) h (fun h => ?_) (fun h => ?_)
    · refine z_iconst (v := 1) C dT_hasCredits_32 (by decide) ?_
      exact z_zret C M (Nat.zero_le _) (Nat.zero_le _) dT_hasCredits_33 h
    · refine z_aload_n C 0 dT_hasCredits_10 rfl rfl ?_
      refine z_getR C fl_T_19 dT_hasCredits_11 h (fun t2 h => ?_)
      refine z_iload_n C 1 dT_hasCredits_14 rfl rfl ?_
      refine z_aald C rfl dT_hasCredits_15 h (fun t3 h => ?_)
      refine z_getI C fl_T_47 dT_hasCredits_16 h (fun t4 h => ?_)
      refine z_bipush (v := 8) C dT_hasCredits_19 (by decide) ?_
      refine z_icmp_lt C 26 dT_hasCredits_21 (by decide) h (fun h => ?_) (fun h => ?_)
      · refine z_iinc (lv' := [(1, .int (x1 + 1)), (0, va_rf (some a0))]) C 1 dT_hasCredits_26 rfl rfl (by decide) rfl ?_
        refine z_goto C 2 dT_hasCredits_29 (by decide) ?_
        refine z_sub [1, 0] rfl ?_
        exact ih V n a0 (x1 + 1) h
      · refine z_iconst (v := 0) C dT_hasCredits_24 (by decide) ?_
        exact z_zret C M (Nat.zero_le _) (Nat.zero_le _) dT_hasCredits_25 h
def fT_hasCredits (V : zV) (n : Nat) (a0 : Nat) : Option zR :=
    fT_hasCredits_2 zF V n a0 (0 : Int32)
set_option maxHeartbeats 4000000 in
set_option maxRecDepth 100000 in
theorem bT_hasCredits {x : zX} {w : zR} (C : zC x prog_7_method_9_code "BarrierMarks$Task" "hasCredits" 2 0 0 (some .boolean)) (M : zM x (zc w) (zs w)) : ∀ (V : zV) (n : Nat) (a0 : Nat), fT_hasCredits V n a0 = some w → zZ x 2 0 0 w V n 0 [(0, va_rf (some a0))] [] := by
  intro V n a0 h
  unfold fT_hasCredits at h
  refine z_iconst (v := 0) C dT_hasCredits_0 (by decide) ?_
  refine z_istore_n (lv' := [(1, .int (0 : Int32)), (0, va_rf (some a0))]) (i := 1) C dT_hasCredits_1 rfl (by decide) rfl ?_
  refine z_sub [1, 0] rfl ?_
  exact bT_hasCredits_2 C M zF V n a0 (0 : Int32) h
theorem mT_hasCredits {l : Launch} {D : va_G} {dA : Nat → ClassId} {V : zV} {n : Nat} (hl : l.stackTraces = false) {a0 : Nat} {w : zR} (h : fT_hasCredits V n a0 = some w) : z_Met l ⟨"BarrierMarks$Task", "hasCredits", "()Z"⟩ prog_7_method_9_code 2 (some .boolean) 0 0 (zc w) (zs w) [.ref a0] D dA V n w := by exact z_ofZ hl (by decide) (Nat.le_of_ble_eq_true rfl) (fun x C M => bT_hasCredits C M V n a0 h)
/-! BarrierMarks$Task.lookFromBehind(I)V -/
def fT_lookFromBehind_18 (V : zV) (n : Nat) (s0 : Option Nat) (s1 : Int32) : Option zR :=
    (zpI V s0 [4] 5 s1).bind fun V =>
    zrV V n
set_option maxHeartbeats 4000000 in
set_option maxRecDepth 100000 in
theorem bT_lookFromBehind_18 {x : zX} {w : zR} (C : zC x prog_7_method_8_code "BarrierMarks$Task" "lookFromBehind" 2 0 0 none) (M : zM x (zc w) (zs w)) : ∀ (V : zV) (n : Nat) (s0 : Option Nat) (s1 : Int32), fT_lookFromBehind_18 V n s0 s1 = some w → zZ x 2 0 0 w V n 18 [] [.int s1, va_rf s0] := by
  intro V n s0 s1 h
  unfold fT_lookFromBehind_18 at h
  refine z_putI C pf_T_40 (fun h => absurd h (by decide)) dT_lookFromBehind_18 h (fun V h => ?_)
  exact z_vret C M (Nat.zero_le _) (Nat.zero_le _) dT_lookFromBehind_21 h
def fT_lookFromBehind (V : zV) (n : Nat) (a0 : Nat) (x1 : Int32) : Option zR :=
    (zgI V (some a0) [4] 3).bind fun t1 =>
    if t1 ≤ (x1 + (1 : Int32)) then (
    fT_lookFromBehind_18 V n (some a0) (0 : Int32)) else (
    fT_lookFromBehind_18 V n (some a0) ((x1 + (1 : Int32))))
set_option maxHeartbeats 4000000 in
set_option maxRecDepth 100000 in
theorem bT_lookFromBehind {x : zX} {w : zR} (C : zC x prog_7_method_8_code "BarrierMarks$Task" "lookFromBehind" 2 0 0 none) (M : zM x (zc w) (zs w)) : ∀ (V : zV) (n : Nat) (a0 : Nat) (x1 : Int32), fT_lookFromBehind V n a0 x1 = some w → zZ x 2 0 0 w V n 0 [(0, va_rf (some a0)), (1, .int x1)] [] := by
  intro V n a0 x1 h
  unfold fT_lookFromBehind at h
  refine z_aload_n C 0 dT_lookFromBehind_0 rfl rfl ?_
  refine z_iload_n C 1 dT_lookFromBehind_1 rfl rfl ?_
  refine z_iconst (v := 1) C dT_lookFromBehind_2 (by decide) ?_
  refine z_iadd C dT_lookFromBehind_3 ?_
  refine z_aload_n C 0 dT_lookFromBehind_4 rfl rfl ?_
  refine z_getI C fl_T_27 dT_lookFromBehind_5 h (fun t1 h => ?_)
  refine z_icmp_ge C 17 dT_lookFromBehind_8 (by decide) h (fun h => ?_) (fun h => ?_)
  · refine z_iconst (v := 0) C dT_lookFromBehind_17 (by decide) ?_
    refine z_sub [] rfl ?_
    exact bT_lookFromBehind_18 C M V n (some a0) (0 : Int32) h
  · refine z_iload_n C 1 dT_lookFromBehind_11 rfl rfl ?_
    refine z_iconst (v := 1) C dT_lookFromBehind_12 (by decide) ?_
    refine z_iadd C dT_lookFromBehind_13 ?_
    refine z_goto C 18 dT_lookFromBehind_14 (by decide) ?_
    refine z_sub [] rfl ?_
    exact bT_lookFromBehind_18 C M V n (some a0) ((x1 + (1 : Int32))) h
theorem mT_lookFromBehind {l : Launch} {D : va_G} {dA : Nat → ClassId} {V : zV} {n : Nat} (hl : l.stackTraces = false) {a0 : Nat} {x1 : Int32} {w : zR} (h : fT_lookFromBehind V n a0 x1 = some w) : z_Met l ⟨"BarrierMarks$Task", "lookFromBehind", "(I)V"⟩ prog_7_method_8_code 2 none 0 0 (zc w) (zs w) [.ref a0, .int x1] D dA V n w := by exact z_ofZ hl (by decide) (Nat.le_of_ble_eq_true rfl) (fun x C M => bT_lookFromBehind C M V n a0 x1 h)
/-! BarrierMarks$Task.putOut(IJ)V -/
def fT_putOut_3 : Nat → zV → Nat → Nat → Int32 → Int64 → Int32 → Option zR
  | 0 => fun _ _ _ _ _ _ => none
  | f9 + 1 => fun V n a0 x1 x2 x4 =>
    (zgI V (some a0) [4] 4).bind fun t1 =>
    if t1 ≤ x4 then (
    zrV V n) else (
    (zgR V (some a0) [4] 2).bind fun t2 =>
    (zaR V t2 5 x4).bind fun t3 =>
    (z_obj V t3 [2]).bind fun o => zcV (fL_put V n o.1 x1 x2) fun V n =>
    (fT_putOut_3 f9) V n a0 x1 x2 (x4 + 1))
set_option maxHeartbeats 4000000 in
set_option maxRecDepth 100000 in
theorem bT_putOut_3 {x : zX} {w : zR} (C : zC x prog_7_method_10_code "BarrierMarks$Task" "putOut" 5 1 23 none) (M : zM x (zc w) (zs w)) : ∀ (f9 : Nat) (V : zV) (n : Nat) (a0 : Nat) (x1 : Int32) (x2 : Int64) (x4 : Int32), fT_putOut_3 f9 V n a0 x1 x2 x4 = some w → zZ x 5 0 0 w V n 3 [(0, va_rf (some a0)), (1, .int x1), (2, .long x2), (4, .int x4)] [] := by
  intro f9
  induction f9 with
  | zero =>
    intro V n a0 x1 x2 x4 h
    cases h
  | succ f9 ih =>
    intro V n a0 x1 x2 x4 h
    unfold fT_putOut_3 at h
    refine z_iload C 3 dT_putOut_3 rfl ?_
    refine z_aload_n C 0 dT_putOut_5 rfl rfl ?_
    refine z_getI C fl_T_30 dT_putOut_6 h (fun t1 h => ?_)
    refine z_icmp_ge C 30 dT_putOut_9 (by decide) h (fun h => ?_) (fun h => ?_)
    · exact z_vret C M (Nat.zero_le _) (Nat.zero_le _) dT_putOut_30 h
    · refine z_aload_n C 0 dT_putOut_12 rfl rfl ?_
      refine z_getR C fl_T_19 dT_putOut_13 h (fun t2 h => ?_)
      refine z_iload C 3 dT_putOut_16 rfl ?_
      refine z_aald C rfl dT_putOut_18 h (fun t3 h => ?_)
      refine z_iload_n C 1 dT_putOut_19 rfl rfl ?_
      refine z_lload_n C 2 dT_putOut_20 rfl rfl ?_
      refine z_vPV (ci := 2) C M zRmP [.int x1, .long x2] cv_T_50 rfl (by decide) (by decide) rfl rfl (Nat.zero_le _) dT_putOut_21 (fun b => fL_put V n b x1 x2) h (fun b w1 e1 l D dA hl => mL_put hl e1) (fun V n h => ?_)
      refine z_iinc (lv' := [(4, .int (x4 + 1)), (0, va_rf (some a0)), (1, .int x1), (2, .long x2)]) C 3 dT_putOut_24 rfl rfl (by decide) rfl ?_
      refine z_goto C 3 dT_putOut_27 (by decide) ?_
      refine z_sub [1, 2, 3, 0] rfl ?_
      exact ih V n a0 x1 x2 (x4 + 1) h
def fT_putOut (V : zV) (n : Nat) (a0 : Nat) (x1 : Int32) (x2 : Int64) : Option zR :=
    fT_putOut_3 zF V n a0 x1 x2 (0 : Int32)
set_option maxHeartbeats 4000000 in
set_option maxRecDepth 100000 in
theorem bT_putOut {x : zX} {w : zR} (C : zC x prog_7_method_10_code "BarrierMarks$Task" "putOut" 5 1 23 none) (M : zM x (zc w) (zs w)) : ∀ (V : zV) (n : Nat) (a0 : Nat) (x1 : Int32) (x2 : Int64), fT_putOut V n a0 x1 x2 = some w → zZ x 5 0 0 w V n 0 [(0, va_rf (some a0)), (1, .int x1), (2, .long x2)] [] := by
  intro V n a0 x1 x2 h
  unfold fT_putOut at h
  refine z_iconst (v := 0) C dT_putOut_0 (by decide) ?_
  refine z_istore (lv' := [(4, .int (0 : Int32)), (0, va_rf (some a0)), (1, .int x1), (2, .long x2)]) C dT_putOut_1 (by decide) rfl ?_
  refine z_sub [1, 2, 3, 0] rfl ?_
  exact bT_putOut_3 C M zF V n a0 x1 x2 (0 : Int32) h
theorem mT_putOut {l : Launch} {D : va_G} {dA : Nat → ClassId} {V : zV} {n : Nat} (hl : l.stackTraces = false) {a0 : Nat} {x1 : Int32} {x2 : Int64} {w : zR} (h : fT_putOut V n a0 x1 x2 = some w) : z_Met l ⟨"BarrierMarks$Task", "putOut", "(IJ)V"⟩ prog_7_method_10_code 5 none 1 23 (zc w) (zs w) [.ref a0, .int x1, .long x2] D dA V n w := by exact z_ofZ hl (by decide) (Nat.le_of_ble_eq_true rfl) (fun x C M => bT_putOut C M V n a0 x1 x2 h)
/-! BarrierMarks$Task.heldFor()I -/
def fT_heldFor_2 : Nat → zV → Nat → Nat → Int32 → Option zR
  | 0 => fun _ _ _ _ => none
  | f9 + 1 => fun V n a0 x1 =>
    (zgI V (some a0) [4] 3).bind fun t1 =>
    if t1 ≤ x1 then (
    zrI (-1 : Int32) V n) else (
    (zgR V (some a0) [4] 1).bind fun t2 =>
    (zaR V t2 4 x1).bind fun t3 =>
    (zgI V t3 [1, 2] 2).bind fun t4 =>
    if t4 = (-1 : Int32) then (
    (fT_heldFor_2 f9) V n a0 (x1 + 1)) else (
    (zgR V (some a0) [4] 1).bind fun t5 =>
    (zaR V t5 4 x1).bind fun t6 =>
    (zgI V t6 [1, 2] 2).bind fun t7 =>
    zrI t7 V n))
set_option maxHeartbeats 4000000 in
set_option maxRecDepth 100000 in
theorem bT_heldFor_2 {x : zX} {w : zR} (C : zC x prog_7_method_5_code "BarrierMarks$Task" "heldFor" 2 0 0 (some .int)) (M : zM x (zc w) (zs w)) : ∀ (f9 : Nat) (V : zV) (n : Nat) (a0 : Nat) (x1 : Int32), fT_heldFor_2 f9 V n a0 x1 = some w → zZ x 2 0 0 w V n 2 [(0, va_rf (some a0)), (1, .int x1)] [] := by
  intro f9
  induction f9 with
  | zero =>
    intro V n a0 x1 h
    cases h
  | succ f9 ih =>
    intro V n a0 x1 h
    unfold fT_heldFor_2 at h
    refine z_iload_n C 1 dT_heldFor_2 rfl rfl ?_
    refine z_aload_n C 0 dT_heldFor_3 rfl rfl ?_
    refine z_getI C fl_T_27 dT_heldFor_4 h (fun t1 h => ?_)
    refine z_icmp_ge C 39 dT_heldFor_7 (by decide) h (fun h => ?_) (fun h => ?_)
    · refine z_iconst (v := (-1)) C dT_heldFor_39 (by decide) ?_
      exact z_iret C M (Nat.zero_le _) (Nat.zero_le _) dT_heldFor_40 h
    · refine z_aload_n C 0 dT_heldFor_10 rfl rfl ?_
      refine z_getR C fl_T_11 dT_heldFor_11 h (fun t2 h => ?_)
      refine z_iload_n C 1 dT_heldFor_14 rfl rfl ?_
      refine z_aald C rfl dT_heldFor_15 h (fun t3 h => ?_)
      refine z_getI C fl_T_33 dT_heldFor_16 h (fun t4 h => ?_)
      refine z_iconst (v := (-1)) C dT_heldFor_19 (by decide) ?_
      refine z_icmp_eq C 33 dT_heldFor_20 (by decide) h (fun h => ?_) (fun h => ?_)
      · refine z_iinc (lv' := [(1, .int (x1 + 1)), (0, va_rf (some a0))]) C 1 dT_heldFor_33 rfl rfl (by decide) rfl ?_
        refine z_goto C 2 dT_heldFor_36 (by decide) ?_
        refine z_sub [1, 0] rfl ?_
        exact ih V n a0 (x1 + 1) h
      · refine z_aload_n C 0 dT_heldFor_23 rfl rfl ?_
        refine z_getR C fl_T_11 dT_heldFor_24 h (fun t5 h => ?_)
        refine z_iload_n C 1 dT_heldFor_27 rfl rfl ?_
        refine z_aald C rfl dT_heldFor_28 h (fun t6 h => ?_)
        refine z_getI C fl_T_33 dT_heldFor_29 h (fun t7 h => ?_)
        exact z_iret C M (Nat.zero_le _) (Nat.zero_le _) dT_heldFor_32 h
def fT_heldFor (V : zV) (n : Nat) (a0 : Nat) : Option zR :=
    fT_heldFor_2 zF V n a0 (0 : Int32)
set_option maxHeartbeats 4000000 in
set_option maxRecDepth 100000 in
theorem bT_heldFor {x : zX} {w : zR} (C : zC x prog_7_method_5_code "BarrierMarks$Task" "heldFor" 2 0 0 (some .int)) (M : zM x (zc w) (zs w)) : ∀ (V : zV) (n : Nat) (a0 : Nat), fT_heldFor V n a0 = some w → zZ x 2 0 0 w V n 0 [(0, va_rf (some a0))] [] := by
  intro V n a0 h
  unfold fT_heldFor at h
  refine z_iconst (v := 0) C dT_heldFor_0 (by decide) ?_
  refine z_istore_n (lv' := [(1, .int (0 : Int32)), (0, va_rf (some a0))]) (i := 1) C dT_heldFor_1 rfl (by decide) rfl ?_
  refine z_sub [1, 0] rfl ?_
  exact bT_heldFor_2 C M zF V n a0 (0 : Int32) h
theorem mT_heldFor {l : Launch} {D : va_G} {dA : Nat → ClassId} {V : zV} {n : Nat} (hl : l.stackTraces = false) {a0 : Nat} {w : zR} (h : fT_heldFor V n a0 = some w) : z_Met l ⟨"BarrierMarks$Task", "heldFor", "()I"⟩ prog_7_method_5_code 2 (some .int) 0 0 (zc w) (zs w) [.ref a0] D dA V n w := by exact z_ofZ hl (by decide) (Nat.le_of_ble_eq_true rfl) (fun x C M => bT_heldFor C M V n a0 h)
/-! BarrierMarks$Task.letGo()V -/
def fT_letGo_2 : Nat → zV → Nat → Nat → Int32 → Option zR
  | 0 => fun _ _ _ _ => none
  | f9 + 1 => fun V n a0 x1 =>
    (zgI V (some a0) [4] 3).bind fun t1 =>
    if t1 ≤ x1 then (
    zrV V n) else (
    (zgR V (some a0) [4] 1).bind fun t2 =>
    (zaR V t2 4 x1).bind fun t3 =>
    (zpI V t3 [1, 2] 2 (-1 : Int32)).bind fun V =>
    (fT_letGo_2 f9) V n a0 (x1 + 1))
set_option maxHeartbeats 4000000 in
set_option maxRecDepth 100000 in
theorem bT_letGo_2 {x : zX} {w : zR} (C : zC x prog_7_method_6_code "BarrierMarks$Task" "letGo" 2 0 0 none) (M : zM x (zc w) (zs w)) : ∀ (f9 : Nat) (V : zV) (n : Nat) (a0 : Nat) (x1 : Int32), fT_letGo_2 f9 V n a0 x1 = some w → zZ x 2 0 0 w V n 2 [(0, va_rf (some a0)), (1, .int x1)] [] := by
  intro f9
  induction f9 with
  | zero =>
    intro V n a0 x1 h
    cases h
  | succ f9 ih =>
    intro V n a0 x1 h
    unfold fT_letGo_2 at h
    refine z_iload_n C 1 dT_letGo_2 rfl rfl ?_
    refine z_aload_n C 0 dT_letGo_3 rfl rfl ?_
    refine z_getI C fl_T_27 dT_letGo_4 h (fun t1 h => ?_)
    refine z_icmp_ge C 26 dT_letGo_7 (by decide) h (fun h => ?_) (fun h => ?_)
    · exact z_vret C M (Nat.zero_le _) (Nat.zero_le _) dT_letGo_26 h
    · refine z_aload_n C 0 dT_letGo_10 rfl rfl ?_
      refine z_getR C fl_T_11 dT_letGo_11 h (fun t2 h => ?_)
      refine z_iload_n C 1 dT_letGo_14 rfl rfl ?_
      refine z_aald C rfl dT_letGo_15 h (fun t3 h => ?_)
      refine z_iconst (v := (-1)) C dT_letGo_16 (by decide) ?_
      refine z_putI C pf_T_33 (fun h => absurd h (by decide)) dT_letGo_17 h (fun V h => ?_)
      refine z_iinc (lv' := [(1, .int (x1 + 1)), (0, va_rf (some a0))]) C 1 dT_letGo_20 rfl rfl (by decide) rfl ?_
      refine z_goto C 2 dT_letGo_23 (by decide) ?_
      refine z_sub [1, 0] rfl ?_
      exact ih V n a0 (x1 + 1) h
def fT_letGo (V : zV) (n : Nat) (a0 : Nat) : Option zR :=
    fT_letGo_2 zF V n a0 (0 : Int32)
set_option maxHeartbeats 4000000 in
set_option maxRecDepth 100000 in
theorem bT_letGo {x : zX} {w : zR} (C : zC x prog_7_method_6_code "BarrierMarks$Task" "letGo" 2 0 0 none) (M : zM x (zc w) (zs w)) : ∀ (V : zV) (n : Nat) (a0 : Nat), fT_letGo V n a0 = some w → zZ x 2 0 0 w V n 0 [(0, va_rf (some a0))] [] := by
  intro V n a0 h
  unfold fT_letGo at h
  refine z_iconst (v := 0) C dT_letGo_0 (by decide) ?_
  refine z_istore_n (lv' := [(1, .int (0 : Int32)), (0, va_rf (some a0))]) (i := 1) C dT_letGo_1 rfl (by decide) rfl ?_
  refine z_sub [1, 0] rfl ?_
  exact bT_letGo_2 C M zF V n a0 (0 : Int32) h
theorem mT_letGo {l : Launch} {D : va_G} {dA : Nat → ClassId} {V : zV} {n : Nat} (hl : l.stackTraces = false) {a0 : Nat} {w : zR} (h : fT_letGo V n a0 = some w) : z_Met l ⟨"BarrierMarks$Task", "letGo", "()V"⟩ prog_7_method_6_code 2 none 0 0 (zc w) (zs w) [.ref a0] D dA V n w := by exact z_ofZ hl (by decide) (Nat.le_of_ble_eq_true rfl) (fun x C M => bT_letGo C M V n a0 h)
/-! BarrierMarks$Task.goBack(LBarrierMarks$Mark;)V -/
def fT_goBack (V : zV) (n : Nat) (a0 : Nat) (x1 : Option Nat) : Option zR :=
    (zgR V x1 [3] 4).bind fun t1 =>
    (zgI V (some a0) [4] 0).bind fun t2 =>
    (zaL V t1 1 t2).bind fun t3 =>
    (zpL V (some a0) [4] 6 t3).bind fun V =>
    (zgR V x1 [3] 5).bind fun t4 =>
    (zgI V (some a0) [4] 0).bind fun t5 =>
    (zaI V t4 0 t5).bind fun t6 =>
    (zpI V (some a0) [4] 7 t6).bind fun V =>
    (zgR V x1 [3] 6).bind fun t7 =>
    (zgI V (some a0) [4] 0).bind fun t8 =>
    (zaI V t7 2 t8).bind fun t9 =>
    (zpZ V (some a0) [4] 8 t9).bind fun V =>
    (zpI V (some a0) [4] 5 (0 : Int32)).bind fun V =>
    zrV V n
set_option maxHeartbeats 4000000 in
set_option maxRecDepth 100000 in
theorem bT_goBack {x : zX} {w : zR} (C : zC x prog_7_method_11_code "BarrierMarks$Task" "goBack" 2 0 0 none) (M : zM x (zc w) (zs w)) : ∀ (V : zV) (n : Nat) (a0 : Nat) (x1 : Option Nat), fT_goBack V n a0 x1 = some w → zZ x 2 0 0 w V n 0 [(0, va_rf (some a0)), (1, va_rf x1)] [] := by
  intro V n a0 x1 h
  unfold fT_goBack at h
  refine z_aload_n C 0 dT_goBack_0 rfl rfl ?_
  refine z_aload_n C 1 dT_goBack_1 rfl rfl ?_
  refine z_getR C fl_T_54 dT_goBack_2 h (fun t1 h => ?_)
  refine z_aload_n C 0 dT_goBack_5 rfl rfl ?_
  refine z_getI C fl_T_23 dT_goBack_6 h (fun t2 h => ?_)
  refine z_lald C rfl dT_goBack_9 h (fun t3 h => ?_)
  refine z_putL C pf_T_60 (fun h => absurd h (by decide)) dT_goBack_10 h (fun V h => ?_)
  refine z_aload_n C 0 dT_goBack_13 rfl rfl ?_
  refine z_aload_n C 1 dT_goBack_14 rfl rfl ?_
  refine z_getR C fl_T_64 dT_goBack_15 h (fun t4 h => ?_)
  refine z_aload_n C 0 dT_goBack_18 rfl rfl ?_
  refine z_getI C fl_T_23 dT_goBack_19 h (fun t5 h => ?_)
  refine z_iald C rfl dT_goBack_22 h (fun t6 h => ?_)
  refine z_putI C pf_T_68 (fun h => absurd h (by decide)) dT_goBack_23 h (fun V h => ?_)
  refine z_aload_n C 0 dT_goBack_26 rfl rfl ?_
  refine z_aload_n C 1 dT_goBack_27 rfl rfl ?_
  refine z_getR C fl_T_70 dT_goBack_28 h (fun t7 h => ?_)
  refine z_aload_n C 0 dT_goBack_31 rfl rfl ?_
  refine z_getI C fl_T_23 dT_goBack_32 h (fun t8 h => ?_)
  refine z_zald C rfl dT_goBack_35 h (fun t9 h => ?_)
  refine z_putZ C pf_T_73 (fun h => absurd h (by decide)) dT_goBack_36 h (fun V h => ?_)
  refine z_aload_n C 0 dT_goBack_39 rfl rfl ?_
  refine z_iconst (v := 0) C dT_goBack_40 (by decide) ?_
  refine z_putI C pf_T_40 (fun h => absurd h (by decide)) dT_goBack_41 h (fun V h => ?_)
  exact z_vret C M (Nat.zero_le _) (Nat.zero_le _) dT_goBack_44 h
theorem mT_goBack {l : Launch} {D : va_G} {dA : Nat → ClassId} {V : zV} {n : Nat} (hl : l.stackTraces = false) {a0 : Nat} {x1 : Option Nat} {w : zR} (h : fT_goBack V n a0 x1 = some w) : z_Met l ⟨"BarrierMarks$Task", "goBack", "(LBarrierMarks$Mark;)V"⟩ prog_7_method_11_code 2 none 0 0 (zc w) (zs w) [.ref a0, va_rf x1] D dA V n w := by cases x1 <;> exact z_ofZ hl (by decide) (Nat.le_of_ble_eq_true rfl) (fun x C M => bT_goBack C M V n a0 _ h)
