/-! BarrierMarksModel.<init>(I)V -/
def fR_init_289 : Nat → zV → Nat → Nat → Int32 → Option zR
  | 0 => fun _ _ _ _ => none
  | f9 + 1 => fun V n a0 x2 =>
    if (16 : Int32) ≤ x2 then (
    zrV V n) else (
    (zgR V (some a0) [6] 18).bind fun t1 =>
    (zsI V t1 0 x2 (-1 : Int32)).bind fun V =>
    (fR_init_289 f9) V n a0 (x2 + 1))
set_option maxHeartbeats 4000000 in
set_option maxRecDepth 100000 in
theorem bR_init_289 {x : zX} {w : zR} (C : zC x prog_9_method_1_code "BarrierMarksModel" "<init>" 3 1 12 none) (M : zM x 28 9176) : ∀ (f9 : Nat) (V : zV) (n : Nat) (a0 : Nat) (x2 : Int32), fR_init_289 f9 V n a0 x2 = some w → zZ x 3 28 9176 w V n 289 [(0, va_rf (some a0)), (2, .int x2)] [] := by
  intro f9
  induction f9 with
  | zero =>
    intro V n a0 x2 h
    cases h
  | succ f9 ih =>
    intro V n a0 x2 h
    unfold fR_init_289 at h
    refine z_iload_n C 1 dR_init_289 rfl rfl ?_
    refine z_bipush (v := 16) C dR_init_290 (by decide) ?_
    refine z_icmp_ge C 308 dR_init_292 (by decide) h (fun h => ?_) (fun h => ?_)
    · exact z_vret C M (by decide) (by decide) dR_init_308 h
    · refine z_aload_n C 0 dR_init_295 rfl rfl ?_
      refine z_getR C fl_R_54 dR_init_296 h (fun t1 h => ?_)
      refine z_iload_n C 1 dR_init_299 rfl rfl ?_
      refine z_iconst (v := (-1)) C dR_init_300 (by decide) ?_
      refine z_iast C rfl dR_init_301 h (fun V h => ?_)
      refine z_iinc (lv' := [(2, .int (x2 + 1)), (0, va_rf (some a0))]) C 1 dR_init_302 rfl rfl (by decide) rfl ?_
      refine z_goto C 289 dR_init_305 (by decide) ?_
      refine z_sub [1, 0] rfl ?_
      exact ih V n a0 (x2 + 1) h
def fR_init_268 : Nat → zV → Nat → Nat → Int32 → Option zR
  | 0 => fun _ _ _ _ => none
  | f9 + 1 => fun V n a0 x2 =>
    if (8 : Int32) ≤ x2 then (
    fR_init_289 zF V n a0 (0 : Int32)) else (
    (zgR V (some a0) [6] 6).bind fun t1 =>
    (zsI V t1 0 x2 (-1 : Int32)).bind fun V =>
    (fR_init_268 f9) V n a0 (x2 + 1))
set_option maxHeartbeats 4000000 in
set_option maxRecDepth 100000 in
theorem bR_init_268 {x : zX} {w : zR} (C : zC x prog_9_method_1_code "BarrierMarksModel" "<init>" 3 1 12 none) (M : zM x 28 9176) : ∀ (f9 : Nat) (V : zV) (n : Nat) (a0 : Nat) (x2 : Int32), fR_init_268 f9 V n a0 x2 = some w → zZ x 3 28 9176 w V n 268 [(0, va_rf (some a0)), (2, .int x2)] [] := by
  intro f9
  induction f9 with
  | zero =>
    intro V n a0 x2 h
    cases h
  | succ f9 ih =>
    intro V n a0 x2 h
    unfold fR_init_268 at h
    refine z_iload_n C 1 dR_init_268 rfl rfl ?_
    refine z_bipush (v := 8) C dR_init_269 (by decide) ?_
    refine z_icmp_ge C 287 dR_init_271 (by decide) h (fun h => ?_) (fun h => ?_)
    · refine z_iconst (v := 0) C dR_init_287 (by decide) ?_
      refine z_istore_n (lv' := [(2, .int (0 : Int32)), (0, va_rf (some a0))]) (i := 2) C dR_init_288 rfl (by decide) rfl ?_
      refine z_sub [1, 0] rfl ?_
      exact bR_init_289 C M zF V n a0 (0 : Int32) h
    · refine z_aload_n C 0 dR_init_274 rfl rfl ?_
      refine z_getR C fl_R_21 dR_init_275 h (fun t1 h => ?_)
      refine z_iload_n C 1 dR_init_278 rfl rfl ?_
      refine z_iconst (v := (-1)) C dR_init_279 (by decide) ?_
      refine z_iast C rfl dR_init_280 h (fun V h => ?_)
      refine z_iinc (lv' := [(2, .int (x2 + 1)), (0, va_rf (some a0))]) C 1 dR_init_281 rfl rfl (by decide) rfl ?_
      refine z_goto C 268 dR_init_284 (by decide) ?_
      refine z_sub [1, 0] rfl ?_
      exact ih V n a0 (x2 + 1) h
def fR_init_263 (V : zV) (n : Nat) (a0 : Nat) (s0 : Option Nat) (s1 : Int32) : Option zR :=
    (zpI V s0 [6] 0 s1).bind fun V =>
    fR_init_268 zF V n a0 (0 : Int32)
set_option maxHeartbeats 4000000 in
set_option maxRecDepth 100000 in
theorem bR_init_263 {x : zX} {w : zR} (C : zC x prog_9_method_1_code "BarrierMarksModel" "<init>" 3 1 12 none) (M : zM x 28 9176) : ∀ (V : zV) (n : Nat) (a0 : Nat) (s0 : Option Nat) (s1 : Int32), fR_init_263 V n a0 s0 s1 = some w → zZ x 3 28 9176 w V n 263 [(0, va_rf (some a0))] [.int s1, va_rf s0] := by
  intro V n a0 s0 s1 h
  unfold fR_init_263 at h
  refine z_putI C pf_R_96 (fun _ => rfl) dR_init_263 h (fun V h => ?_)
  refine z_iconst (v := 0) C dR_init_266 (by decide) ?_
  refine z_istore_n (lv' := [(2, .int (0 : Int32)), (0, va_rf (some a0))]) (i := 2) C dR_init_267 rfl (by decide) rfl ?_
  refine z_sub [1, 0] rfl ?_
  exact bR_init_268 C M zF V n a0 (0 : Int32) h
def fR_init (V : zV) (n : Nat) (a0 : Nat) (x1 : Int32) : Option zR :=
    znwa V n 1 8 (8 : Int32) (.inr (.inl (fun _ => 0))) fun t1 V n =>
    (zpR V (some a0) [6] 3 (some t1)).bind fun V =>
    znwa V n 0 8 (8 : Int32) (.inl (fun _ => 0)) fun t2 V n =>
    (zpR V (some a0) [6] 4 (some t2)).bind fun V =>
    znwa V n 2 8 (8 : Int32) (.inl (fun _ => 0)) fun t3 V n =>
    (zpR V (some a0) [6] 5 (some t3)).bind fun V =>
    znwa V n 0 8 (8 : Int32) (.inl (fun _ => 0)) fun t4 V n =>
    (zpR V (some a0) [6] 6 (some t4)).bind fun V =>
    znwa V n 0 16 (16 : Int32) (.inl (fun _ => 0)) fun t5 V n =>
    (zpR V (some a0) [6] 8 (some t5)).bind fun V =>
    znwa V n 0 16 (16 : Int32) (.inl (fun _ => 0)) fun t6 V n =>
    (zpR V (some a0) [6] 9 (some t6)).bind fun V =>
    znwa V n 0 256 (256 : Int32) (.inl (fun _ => 0)) fun t7 V n =>
    (zpR V (some a0) [6] 10 (some t7)).bind fun V =>
    znwa V n 1 256 (256 : Int32) (.inr (.inl (fun _ => 0))) fun t8 V n =>
    (zpR V (some a0) [6] 11 (some t8)).bind fun V =>
    znwa V n 0 16 (16 : Int32) (.inl (fun _ => 0)) fun t9 V n =>
    (zpR V (some a0) [6] 12 (some t9)).bind fun V =>
    znwa V n 1 3200 (3200 : Int32) (.inr (.inl (fun _ => 0))) fun t10 V n =>
    (zpR V (some a0) [6] 13 (some t10)).bind fun V =>
    znwa V n 0 16 (16 : Int32) (.inl (fun _ => 0)) fun t11 V n =>
    (zpR V (some a0) [6] 14 (some t11)).bind fun V =>
    znwa V n 2 16 (16 : Int32) (.inl (fun _ => 0)) fun t12 V n =>
    (zpR V (some a0) [6] 15 (some t12)).bind fun V =>
    znwa V n 0 16 (16 : Int32) (.inl (fun _ => 0)) fun t13 V n =>
    (zpR V (some a0) [6] 16 (some t13)).bind fun V =>
    znwa V n 2 16 (16 : Int32) (.inl (fun _ => 0)) fun t14 V n =>
    (zpR V (some a0) [6] 17 (some t14)).bind fun V =>
    znwa V n 0 16 (16 : Int32) (.inl (fun _ => 0)) fun t15 V n =>
    (zpR V (some a0) [6] 18 (some t15)).bind fun V =>
    znwa V n 0 40 (40 : Int32) (.inl (fun _ => 0)) fun t16 V n =>
    (zpR V (some a0) [6] 20 (some t16)).bind fun V =>
    znwa V n 0 640 (640 : Int32) (.inl (fun _ => 0)) fun t17 V n =>
    (zpR V (some a0) [6] 21 (some t17)).bind fun V =>
    znwa V n 2 640 (640 : Int32) (.inl (fun _ => 0)) fun t18 V n =>
    (zpR V (some a0) [6] 22 (some t18)).bind fun V =>
    znwa V n 2 320 (320 : Int32) (.inl (fun _ => 0)) fun t19 V n =>
    (zpR V (some a0) [6] 23 (some t19)).bind fun V =>
    znwa V n 2 320 (320 : Int32) (.inl (fun _ => 0)) fun t20 V n =>
    (zpR V (some a0) [6] 24 (some t20)).bind fun V =>
    znwa V n 1 320 (320 : Int32) (.inr (.inl (fun _ => 0))) fun t21 V n =>
    (zpR V (some a0) [6] 25 (some t21)).bind fun V =>
    znwa V n 0 320 (320 : Int32) (.inl (fun _ => 0)) fun t22 V n =>
    (zpR V (some a0) [6] 26 (some t22)).bind fun V =>
    znwa V n 2 320 (320 : Int32) (.inl (fun _ => 0)) fun t23 V n =>
    (zpR V (some a0) [6] 27 (some t23)).bind fun V =>
    znwa V n 2 320 (320 : Int32) (.inl (fun _ => 0)) fun t24 V n =>
    (zpR V (some a0) [6] 28 (some t24)).bind fun V =>
    znwa V n 0 1024 (1024 : Int32) (.inl (fun _ => 0)) fun t25 V n =>
    (zpR V (some a0) [6] 30 (some t25)).bind fun V =>
    znwa V n 0 1024 (1024 : Int32) (.inl (fun _ => 0)) fun t26 V n =>
    (zpR V (some a0) [6] 31 (some t26)).bind fun V =>
    znwa V n 1 8 (8 : Int32) (.inr (.inl (fun _ => 0))) fun t27 V n =>
    (zpR V (some a0) [6] 32 (some t27)).bind fun V =>
    znwa V n 1 8 (8 : Int32) (.inr (.inl (fun _ => 0))) fun t28 V n =>
    (zpR V (some a0) [6] 33 (some t28)).bind fun V =>
    if (1 : Int32) ≤ x1 then (
    if x1 ≤ (8 : Int32) then (
    fR_init_263 V n a0 (some a0) x1) else (
    fR_init_263 V n a0 (some a0) (8 : Int32))) else (
    fR_init_263 V n a0 (some a0) (1 : Int32))
set_option maxHeartbeats 4000000 in
set_option maxRecDepth 100000 in
theorem bR_init {x : zX} {w : zR} (C : zC x prog_9_method_1_code "BarrierMarksModel" "<init>" 3 1 12 none) (M : zM x 28 9176) : ∀ (V : zV) (n : Nat) (a0 : Nat) (x1 : Int32), fR_init V n a0 x1 = some w → zZ x 3 0 0 w V n 0 [(0, va_rf (some a0)), (1, .int x1)] [] := by
  intro V n a0 x1 h
  unfold fR_init at h
  refine z_aload_n C 0 dR_init_0 rfl rfl ?_
  refine z_objInit C ol_R_1 oi_ oc_ (by decide) (by first | decide | (simp [zrfcat, zicat, zlcat]; done)) dR_init_1 ?_
  refine z_aload_n C 0 dR_init_4 rfl rfl ?_
  refine z_bipush (v := 8) C dR_init_5 (by decide) ?_
  refine z_newaK (at9 := .long) C M rfl rfl na_1 (fun _ _ => rfl) (fun _ _ => rfl) (by decide) (by decide) (by decide) dR_init_7 h (fun t1 V n h => ?_)
  refine z_putR C pf_R_7 zfitA (fun _ => rfl) dR_init_9 h (fun V h => ?_)
  refine z_aload_n C 0 dR_init_12 rfl rfl ?_
  refine z_bipush (v := 8) C dR_init_13 (by decide) ?_
  refine z_newaK (at9 := .int) C M rfl rfl na_0 (fun _ _ => rfl) (fun _ _ => rfl) (by decide) (by decide) (by decide) dR_init_15 h (fun t2 V n h => ?_)
  refine z_putR C pf_R_13 zfitA (fun _ => rfl) dR_init_17 h (fun V h => ?_)
  refine z_aload_n C 0 dR_init_20 rfl rfl ?_
  refine z_bipush (v := 8) C dR_init_21 (by decide) ?_
  refine z_newaK (at9 := .boolean) C M rfl rfl na_2 (fun _ _ => rfl) (fun _ _ => rfl) (by decide) (by decide) (by decide) dR_init_23 h (fun t3 V n h => ?_)
  refine z_putR C pf_R_17 zfitA (fun _ => rfl) dR_init_25 h (fun V h => ?_)
  refine z_aload_n C 0 dR_init_28 rfl rfl ?_
  refine z_bipush (v := 8) C dR_init_29 (by decide) ?_
  refine z_newaK (at9 := .int) C M rfl rfl na_0 (fun _ _ => rfl) (fun _ _ => rfl) (by decide) (by decide) (by decide) dR_init_31 h (fun t4 V n h => ?_)
  refine z_putR C pf_R_21 zfitA (fun _ => rfl) dR_init_33 h (fun V h => ?_)
  refine z_aload_n C 0 dR_init_36 rfl rfl ?_
  refine z_bipush (v := 16) C dR_init_37 (by decide) ?_
  refine z_newaK (at9 := .int) C M rfl rfl na_0 (fun _ _ => rfl) (fun _ _ => rfl) (by decide) (by decide) (by decide) dR_init_39 h (fun t5 V n h => ?_)
  refine z_putR C pf_R_24 zfitA (fun _ => rfl) dR_init_41 h (fun V h => ?_)
  refine z_aload_n C 0 dR_init_44 rfl rfl ?_
  refine z_bipush (v := 16) C dR_init_45 (by decide) ?_
  refine z_newaK (at9 := .int) C M rfl rfl na_0 (fun _ _ => rfl) (fun _ _ => rfl) (by decide) (by decide) (by decide) dR_init_47 h (fun t6 V n h => ?_)
  refine z_putR C pf_R_27 zfitA (fun _ => rfl) dR_init_49 h (fun V h => ?_)
  refine z_aload_n C 0 dR_init_52 rfl rfl ?_
  refine z_sipush (v := 256) C dR_init_53 (by decide) ?_
  refine z_newaK (at9 := .int) C M rfl rfl na_0 (fun _ _ => rfl) (fun _ _ => rfl) (by decide) (by decide) (by decide) dR_init_56 h (fun t7 V n h => ?_)
  refine z_putR C pf_R_30 zfitA (fun _ => rfl) dR_init_58 h (fun V h => ?_)
  refine z_aload_n C 0 dR_init_61 rfl rfl ?_
  refine z_sipush (v := 256) C dR_init_62 (by decide) ?_
  refine z_newaK (at9 := .long) C M rfl rfl na_1 (fun _ _ => rfl) (fun _ _ => rfl) (by decide) (by decide) (by decide) dR_init_65 h (fun t8 V n h => ?_)
  refine z_putR C pf_R_33 zfitA (fun _ => rfl) dR_init_67 h (fun V h => ?_)
  refine z_aload_n C 0 dR_init_70 rfl rfl ?_
  refine z_bipush (v := 16) C dR_init_71 (by decide) ?_
  refine z_newaK (at9 := .int) C M rfl rfl na_0 (fun _ _ => rfl) (fun _ _ => rfl) (by decide) (by decide) (by decide) dR_init_73 h (fun t9 V n h => ?_)
  refine z_putR C pf_R_36 zfitA (fun _ => rfl) dR_init_75 h (fun V h => ?_)
  refine z_aload_n C 0 dR_init_78 rfl rfl ?_
  refine z_sipush (v := 3200) C dR_init_79 (by decide) ?_
  refine z_newaK (at9 := .long) C M rfl rfl na_1 (fun _ _ => rfl) (fun _ _ => rfl) (by decide) (by decide) (by decide) dR_init_82 h (fun t10 V n h => ?_)
  refine z_putR C pf_R_39 zfitA (fun _ => rfl) dR_init_84 h (fun V h => ?_)
  refine z_aload_n C 0 dR_init_87 rfl rfl ?_
  refine z_bipush (v := 16) C dR_init_88 (by decide) ?_
  refine z_newaK (at9 := .int) C M rfl rfl na_0 (fun _ _ => rfl) (fun _ _ => rfl) (by decide) (by decide) (by decide) dR_init_90 h (fun t11 V n h => ?_)
  refine z_putR C pf_R_42 zfitA (fun _ => rfl) dR_init_92 h (fun V h => ?_)
  refine z_aload_n C 0 dR_init_95 rfl rfl ?_
  refine z_bipush (v := 16) C dR_init_96 (by decide) ?_
  refine z_newaK (at9 := .boolean) C M rfl rfl na_2 (fun _ _ => rfl) (fun _ _ => rfl) (by decide) (by decide) (by decide) dR_init_98 h (fun t12 V n h => ?_)
  refine z_putR C pf_R_45 zfitA (fun _ => rfl) dR_init_100 h (fun V h => ?_)
  refine z_aload_n C 0 dR_init_103 rfl rfl ?_
  refine z_bipush (v := 16) C dR_init_104 (by decide) ?_
  refine z_newaK (at9 := .int) C M rfl rfl na_0 (fun _ _ => rfl) (fun _ _ => rfl) (by decide) (by decide) (by decide) dR_init_106 h (fun t13 V n h => ?_)
  refine z_putR C pf_R_48 zfitA (fun _ => rfl) dR_init_108 h (fun V h => ?_)
  refine z_aload_n C 0 dR_init_111 rfl rfl ?_
  refine z_bipush (v := 16) C dR_init_112 (by decide) ?_
  refine z_newaK (at9 := .boolean) C M rfl rfl na_2 (fun _ _ => rfl) (fun _ _ => rfl) (by decide) (by decide) (by decide) dR_init_114 h (fun t14 V n h => ?_)
  refine z_putR C pf_R_51 zfitA (fun _ => rfl) dR_init_116 h (fun V h => ?_)
  refine z_aload_n C 0 dR_init_119 rfl rfl ?_
  refine z_bipush (v := 16) C dR_init_120 (by decide) ?_
  refine z_newaK (at9 := .int) C M rfl rfl na_0 (fun _ _ => rfl) (fun _ _ => rfl) (by decide) (by decide) (by decide) dR_init_122 h (fun t15 V n h => ?_)
  refine z_putR C pf_R_54 zfitA (fun _ => rfl) dR_init_124 h (fun V h => ?_)
  refine z_aload_n C 0 dR_init_127 rfl rfl ?_
  refine z_bipush (v := 40) C dR_init_128 (by decide) ?_
  refine z_newaK (at9 := .int) C M rfl rfl na_0 (fun _ _ => rfl) (fun _ _ => rfl) (by decide) (by decide) (by decide) dR_init_130 h (fun t16 V n h => ?_)
  refine z_putR C pf_R_57 zfitA (fun _ => rfl) dR_init_132 h (fun V h => ?_)
  refine z_aload_n C 0 dR_init_135 rfl rfl ?_
  refine z_sipush (v := 640) C dR_init_136 (by decide) ?_
  refine z_newaK (at9 := .int) C M rfl rfl na_0 (fun _ _ => rfl) (fun _ _ => rfl) (by decide) (by decide) (by decide) dR_init_139 h (fun t17 V n h => ?_)
  refine z_putR C pf_R_60 zfitA (fun _ => rfl) dR_init_141 h (fun V h => ?_)
  refine z_aload_n C 0 dR_init_144 rfl rfl ?_
  refine z_sipush (v := 640) C dR_init_145 (by decide) ?_
  refine z_newaK (at9 := .boolean) C M rfl rfl na_2 (fun _ _ => rfl) (fun _ _ => rfl) (by decide) (by decide) (by decide) dR_init_148 h (fun t18 V n h => ?_)
  refine z_putR C pf_R_63 zfitA (fun _ => rfl) dR_init_150 h (fun V h => ?_)
  refine z_aload_n C 0 dR_init_153 rfl rfl ?_
  refine z_sipush (v := 320) C dR_init_154 (by decide) ?_
  refine z_newaK (at9 := .boolean) C M rfl rfl na_2 (fun _ _ => rfl) (fun _ _ => rfl) (by decide) (by decide) (by decide) dR_init_157 h (fun t19 V n h => ?_)
  refine z_putR C pf_R_66 zfitA (fun _ => rfl) dR_init_159 h (fun V h => ?_)
  refine z_aload_n C 0 dR_init_162 rfl rfl ?_
  refine z_sipush (v := 320) C dR_init_163 (by decide) ?_
  refine z_newaK (at9 := .boolean) C M rfl rfl na_2 (fun _ _ => rfl) (fun _ _ => rfl) (by decide) (by decide) (by decide) dR_init_166 h (fun t20 V n h => ?_)
  refine z_putR C pf_R_69 zfitA (fun _ => rfl) dR_init_168 h (fun V h => ?_)
  refine z_aload_n C 0 dR_init_171 rfl rfl ?_
  refine z_sipush (v := 320) C dR_init_172 (by decide) ?_
  refine z_newaK (at9 := .long) C M rfl rfl na_1 (fun _ _ => rfl) (fun _ _ => rfl) (by decide) (by decide) (by decide) dR_init_175 h (fun t21 V n h => ?_)
  refine z_putR C pf_R_72 zfitA (fun _ => rfl) dR_init_177 h (fun V h => ?_)
  refine z_aload_n C 0 dR_init_180 rfl rfl ?_
  refine z_sipush (v := 320) C dR_init_181 (by decide) ?_
  refine z_newaK (at9 := .int) C M rfl rfl na_0 (fun _ _ => rfl) (fun _ _ => rfl) (by decide) (by decide) (by decide) dR_init_184 h (fun t22 V n h => ?_)
  refine z_putR C pf_R_75 zfitA (fun _ => rfl) dR_init_186 h (fun V h => ?_)
  refine z_aload_n C 0 dR_init_189 rfl rfl ?_
  refine z_sipush (v := 320) C dR_init_190 (by decide) ?_
  refine z_newaK (at9 := .boolean) C M rfl rfl na_2 (fun _ _ => rfl) (fun _ _ => rfl) (by decide) (by decide) (by decide) dR_init_193 h (fun t23 V n h => ?_)
  refine z_putR C pf_R_78 zfitA (fun _ => rfl) dR_init_195 h (fun V h => ?_)
  refine z_aload_n C 0 dR_init_198 rfl rfl ?_
  refine z_sipush (v := 320) C dR_init_199 (by decide) ?_
  refine z_newaK (at9 := .boolean) C M rfl rfl na_2 (fun _ _ => rfl) (fun _ _ => rfl) (by decide) (by decide) (by decide) dR_init_202 h (fun t24 V n h => ?_)
  refine z_putR C pf_R_81 zfitA (fun _ => rfl) dR_init_204 h (fun V h => ?_)
  refine z_aload_n C 0 dR_init_207 rfl rfl ?_
  refine z_sipush (v := 1024) C dR_init_208 (by decide) ?_
  refine z_newaK (at9 := .int) C M rfl rfl na_0 (fun _ _ => rfl) (fun _ _ => rfl) (by decide) (by decide) (by decide) dR_init_211 h (fun t25 V n h => ?_)
  refine z_putR C pf_R_84 zfitA (fun _ => rfl) dR_init_213 h (fun V h => ?_)
  refine z_aload_n C 0 dR_init_216 rfl rfl ?_
  refine z_sipush (v := 1024) C dR_init_217 (by decide) ?_
  refine z_newaK (at9 := .int) C M rfl rfl na_0 (fun _ _ => rfl) (fun _ _ => rfl) (by decide) (by decide) (by decide) dR_init_220 h (fun t26 V n h => ?_)
  refine z_putR C pf_R_87 zfitA (fun _ => rfl) dR_init_222 h (fun V h => ?_)
  refine z_aload_n C 0 dR_init_225 rfl rfl ?_
  refine z_bipush (v := 8) C dR_init_226 (by decide) ?_
  refine z_newaK (at9 := .long) C M rfl rfl na_1 (fun _ _ => rfl) (fun _ _ => rfl) (by decide) (by decide) (by decide) dR_init_228 h (fun t27 V n h => ?_)
  refine z_putR C pf_R_90 zfitA (fun _ => rfl) dR_init_230 h (fun V h => ?_)
  refine z_aload_n C 0 dR_init_233 rfl rfl ?_
  refine z_bipush (v := 8) C dR_init_234 (by decide) ?_
  refine z_newaK (at9 := .long) C M rfl rfl na_1 (fun _ _ => rfl) (fun _ _ => rfl) (by decide) (by decide) (by decide) dR_init_236 h (fun t28 V n h => ?_)
  refine z_putR C pf_R_93 zfitA (fun _ => rfl) dR_init_238 h (fun V h => ?_)
  refine z_aload_n C 0 dR_init_241 rfl rfl ?_
  refine z_iload_n C 1 dR_init_242 rfl rfl ?_
  refine z_iconst (v := 1) C dR_init_243 (by decide) ?_
  refine z_icmp_ge C 251 dR_init_244 (by decide) h (fun h => ?_) (fun h => ?_)
  · refine z_iload_n C 1 dR_init_251 rfl rfl ?_
    refine z_bipush (v := 8) C dR_init_252 (by decide) ?_
    refine z_icmp_le C 262 dR_init_254 (by decide) h (fun h => ?_) (fun h => ?_)
    · refine z_iload_n C 1 dR_init_262 rfl rfl ?_
      refine z_sub [0] rfl ?_
      exact bR_init_263 C M V n a0 (some a0) x1 h
    · refine z_bipush (v := 8) C dR_init_257 (by decide) ?_
      refine z_goto C 263 dR_init_259 (by decide) ?_
      refine z_sub [0] rfl ?_
      exact bR_init_263 C M V n a0 (some a0) (8 : Int32) h
  · refine z_iconst (v := 1) C dR_init_247 (by decide) ?_
    refine z_goto C 263 dR_init_248 (by decide) ?_
    refine z_sub [0] rfl ?_
    exact bR_init_263 C M V n a0 (some a0) (1 : Int32) h
theorem mR_init {l : Launch} {D : va_G} {dA : Nat → ClassId} {V : zV} {n : Nat} (hl : l.stackTraces = false) {a0 : Nat} {x1 : Int32} {w : zR} (h : fR_init V n a0 x1 = some w) : z_Met l ⟨"BarrierMarksModel", "<init>", "(I)V"⟩ prog_9_method_1_code 3 none 1 12 28 9176 [.ref a0, .int x1] D dA V n w := by exact z_ofZ hl (by decide) (Nat.le_of_ble_eq_true rfl) (fun x C M => bR_init C M V n a0 x1 h)
/-! BarrierMarksModel.thrown()I -/
def fR_thrown (V : zV) (n : Nat) (a0 : Nat) : Option zR :=
    (zgI V (some a0) [6] 1).bind fun t1 =>
    zrI t1 V n
set_option maxHeartbeats 4000000 in
set_option maxRecDepth 100000 in
theorem bR_thrown {x : zX} {w : zR} (C : zC x prog_9_method_2_code "BarrierMarksModel" "thrown" 1 0 0 (some .int)) (M : zM x (zc w) (zs w)) : ∀ (V : zV) (n : Nat) (a0 : Nat), fR_thrown V n a0 = some w → zZ x 1 0 0 w V n 0 [(0, va_rf (some a0))] [] := by
  intro V n a0 h
  unfold fR_thrown at h
  refine z_aload_n C 0 dR_thrown_0 rfl rfl ?_
  refine z_getI C fl_R_100 dR_thrown_1 h (fun t1 h => ?_)
  exact z_iret C M (Nat.zero_le _) (Nat.zero_le _) dR_thrown_4 h
theorem mR_thrown {l : Launch} {D : va_G} {dA : Nat → ClassId} {V : zV} {n : Nat} (hl : l.stackTraces = false) {a0 : Nat} {w : zR} (h : fR_thrown V n a0 = some w) : z_Met l ⟨"BarrierMarksModel", "thrown", "()I"⟩ prog_9_method_2_code 1 (some .int) 0 0 (zc w) (zs w) [.ref a0] D dA V n w := by exact z_ofZ hl (by decide) (Nat.le_of_ble_eq_true rfl) (fun x C M => bR_thrown C M V n a0 h)
/-! BarrierMarksModel.isTask(I)Z -/
def fR_isTask_16 (V : zV) (n : Nat) : Option zR :=
    zrZ (0 : Int32) V n
set_option maxHeartbeats 4000000 in
set_option maxRecDepth 100000 in
theorem bR_isTask_16 {x : zX} {w : zR} (C : zC x prog_9_method_3_code "BarrierMarksModel" "isTask" 2 0 0 (some .boolean)) (M : zM x (zc w) (zs w)) : ∀ (V : zV) (n : Nat), fR_isTask_16 V n = some w → zZ x 2 0 0 w V n 16 [] [] := by
  intro V n h
  unfold fR_isTask_16 at h
  refine z_iconst (v := 0) C dR_isTask_16 (by decide) ?_
  exact z_zret C M (Nat.zero_le _) (Nat.zero_le _) dR_isTask_17 h
def fR_isTask (V : zV) (n : Nat) (a0 : Nat) (x1 : Int32) : Option zR :=
    if x1 < 0 then (
    fR_isTask_16 V n) else (
    (zgI V (some a0) [6] 0).bind fun t1 =>
    if t1 ≤ x1 then (
    fR_isTask_16 V n) else (
    zrZ (1 : Int32) V n))
set_option maxHeartbeats 4000000 in
set_option maxRecDepth 100000 in
theorem bR_isTask {x : zX} {w : zR} (C : zC x prog_9_method_3_code "BarrierMarksModel" "isTask" 2 0 0 (some .boolean)) (M : zM x (zc w) (zs w)) : ∀ (V : zV) (n : Nat) (a0 : Nat) (x1 : Int32), fR_isTask V n a0 x1 = some w → zZ x 2 0 0 w V n 0 [(0, va_rf (some a0)), (1, .int x1)] [] := by
  intro V n a0 x1 h
  unfold fR_isTask at h
  refine z_iload_n C 1 dR_isTask_0 rfl rfl ?_
  refine z_if_lt C 16 dR_isTask_1 (by decide) h (fun h => ?_) (fun h => ?_)
  · refine z_sub [] rfl ?_
    exact bR_isTask_16 C M V n h
  · refine z_iload_n C 1 dR_isTask_4 rfl rfl ?_
    refine z_aload_n C 0 dR_isTask_5 rfl rfl ?_
    refine z_getI C fl_R_96 dR_isTask_6 h (fun t1 h => ?_)
    refine z_icmp_ge C 16 dR_isTask_9 (by decide) h (fun h => ?_) (fun h => ?_)
    · refine z_sub [] rfl ?_
      exact bR_isTask_16 C M V n h
    · refine z_iconst (v := 1) C dR_isTask_12 (by decide) ?_
      refine z_goto C 17 dR_isTask_13 (by decide) ?_
      exact z_zret C M (Nat.zero_le _) (Nat.zero_le _) dR_isTask_17 h
theorem mR_isTask {l : Launch} {D : va_G} {dA : Nat → ClassId} {V : zV} {n : Nat} (hl : l.stackTraces = false) {a0 : Nat} {x1 : Int32} {w : zR} (h : fR_isTask V n a0 x1 = some w) : z_Met l ⟨"BarrierMarksModel", "isTask", "(I)Z"⟩ prog_9_method_3_code 2 (some .boolean) 0 0 (zc w) (zs w) [.ref a0, .int x1] D dA V n w := by exact z_ofZ hl (by decide) (Nat.le_of_ble_eq_true rfl) (fun x C M => bR_isTask C M V n a0 x1 h)
/-! BarrierMarksModel.reached(I)I -/
def fR_reached_64 (K6 : zV → Nat → Nat → Int32 → Int32 → Option zR) (K17 : zV → Nat → Nat → Int32 → Int32 → Int32 → Option zR) (V : zV) (n : Nat) (a0 : Nat) (x2 : Int32) (x3 : Int32) (x4 : Int32) : Option zR :=
    K17 V n a0 x2 x3 (x4 + 1)
set_option maxHeartbeats 4000000 in
set_option maxRecDepth 100000 in
theorem bR_reached_64 {x : zX} {w : zR} {K6 : zV → Nat → Nat → Int32 → Int32 → Option zR} {K17 : zV → Nat → Nat → Int32 → Int32 → Int32 → Option zR} (C : zC x prog_9_method_8_code "BarrierMarksModel" "reached" 5 0 0 (some .int)) (M : zM x (zc w) (zs w)) (hK6 : ∀ (V : zV) (n : Nat) (a0 : Nat) (x2 : Int32) (x3 : Int32), K6 V n a0 x2 x3 = some w → zZ x 5 0 0 w V n 6 [(0, va_rf (some a0)), (2, .int x2), (3, .int x3)] []) (hK17 : ∀ (V : zV) (n : Nat) (a0 : Nat) (x2 : Int32) (x3 : Int32) (x4 : Int32), K17 V n a0 x2 x3 x4 = some w → zZ x 5 0 0 w V n 17 [(0, va_rf (some a0)), (2, .int x2), (3, .int x3), (4, .int x4)] []) : ∀ (V : zV) (n : Nat) (a0 : Nat) (x2 : Int32) (x3 : Int32) (x4 : Int32), fR_reached_64 K6 K17 V n a0 x2 x3 x4 = some w → zZ x 5 0 0 w V n 64 [(0, va_rf (some a0)), (2, .int x2), (3, .int x3), (4, .int x4)] [] := by
  intro V n a0 x2 x3 x4 h
  unfold fR_reached_64 at h
  refine z_iinc (lv' := [(4, .int (x4 + 1)), (0, va_rf (some a0)), (2, .int x2), (3, .int x3)]) C 3 dR_reached_64 rfl rfl (by decide) rfl ?_
  refine z_goto C 17 dR_reached_67 (by decide) ?_
  refine z_sub [1, 2, 3, 0] rfl ?_
  exact hK17 V n a0 x2 x3 (x4 + 1) h
def fR_reached_17 (K6 : zV → Nat → Nat → Int32 → Int32 → Option zR) : Nat → zV → Nat → Nat → Int32 → Int32 → Int32 → Option zR
  | 0 => fun _ _ _ _ _ _ => none
  | f9 + 1 => fun V n a0 x2 x3 x4 =>
    (zgI V (some a0) [6] 7).bind fun t1 =>
    if t1 ≤ x4 then (
    K6 V n a0 x2 (x3 + 1)) else (
    (zgR V (some a0) [6] 8).bind fun t2 =>
    (zaI V t2 0 x4).bind fun t3 =>
    if t3 = (-1 : Int32) then (
    fR_reached_64 K6 (fR_reached_17 K6 f9) V n a0 x2 x3 x4) else (
    (zgR V (some a0) [6] 8).bind fun t4 =>
    (zaI V t4 0 x4).bind fun t5 =>
    if ((x2 >>> (t5 &&& 31)) &&& (1 : Int32)) = (1 : Int32) then (
    (zgR V (some a0) [6] 9).bind fun t6 =>
    (zaI V t6 0 x4).bind fun t7 =>
    fR_reached_64 K6 (fR_reached_17 K6 f9) V n a0 ((x2 ||| ((1 : Int32) <<< (t7 &&& 31)))) x3 x4) else (
    fR_reached_64 K6 (fR_reached_17 K6 f9) V n a0 x2 x3 x4)))
set_option maxHeartbeats 4000000 in
set_option maxRecDepth 100000 in
theorem bR_reached_17 {x : zX} {w : zR} {K6 : zV → Nat → Nat → Int32 → Int32 → Option zR} (C : zC x prog_9_method_8_code "BarrierMarksModel" "reached" 5 0 0 (some .int)) (M : zM x (zc w) (zs w)) (hK6 : ∀ (V : zV) (n : Nat) (a0 : Nat) (x2 : Int32) (x3 : Int32), K6 V n a0 x2 x3 = some w → zZ x 5 0 0 w V n 6 [(0, va_rf (some a0)), (2, .int x2), (3, .int x3)] []) : ∀ (f9 : Nat) (V : zV) (n : Nat) (a0 : Nat) (x2 : Int32) (x3 : Int32) (x4 : Int32), fR_reached_17 K6 f9 V n a0 x2 x3 x4 = some w → zZ x 5 0 0 w V n 17 [(0, va_rf (some a0)), (2, .int x2), (3, .int x3), (4, .int x4)] [] := by
  intro f9
  induction f9 with
  | zero =>
    intro V n a0 x2 x3 x4 h
    cases h
  | succ f9 ih =>
    intro V n a0 x2 x3 x4 h
    unfold fR_reached_17 at h
    refine z_iload C 3 dR_reached_17 rfl ?_
    refine z_aload_n C 0 dR_reached_19 rfl rfl ?_
    refine z_getI C fl_R_103 dR_reached_20 h (fun t1 h => ?_)
    refine z_icmp_ge C 70 dR_reached_23 (by decide) h (fun h => ?_) (fun h => ?_)
    · refine z_iinc (lv' := [(3, .int (x3 + 1)), (0, va_rf (some a0)), (2, .int x2), (4, .int x4)]) C 2 dR_reached_70 rfl rfl (by decide) rfl ?_
      refine z_goto C 6 dR_reached_73 (by decide) ?_
      refine z_sub [1, 2, 0] rfl ?_
      exact hK6 V n a0 x2 (x3 + 1) h
    · refine z_aload_n C 0 dR_reached_26 rfl rfl ?_
      refine z_getR C fl_R_24 dR_reached_27 h (fun t2 h => ?_)
      refine z_iload C 3 dR_reached_30 rfl ?_
      refine z_iald C rfl dR_reached_32 h (fun t3 h => ?_)
      refine z_iconst (v := (-1)) C dR_reached_33 (by decide) ?_
      refine z_icmp_eq C 64 dR_reached_34 (by decide) h (fun h => ?_) (fun h => ?_)
      · exact bR_reached_64 C M hK6 ih V n a0 x2 x3 x4 h
      · refine z_iload_n C 1 dR_reached_37 rfl rfl ?_
        refine z_aload_n C 0 dR_reached_38 rfl rfl ?_
        refine z_getR C fl_R_24 dR_reached_39 h (fun t4 h => ?_)
        refine z_iload C 3 dR_reached_42 rfl ?_
        refine z_iald C rfl dR_reached_44 h (fun t5 h => ?_)
        refine z_ishr C dR_reached_45 ?_
        refine z_iconst (v := 1) C dR_reached_46 (by decide) ?_
        refine z_iand C dR_reached_47 ?_
        refine z_iconst (v := 1) C dR_reached_48 (by decide) ?_
        refine z_icmp_ne C 64 dR_reached_49 (by decide) h (fun h => ?_) (fun h => ?_)
        · exact bR_reached_64 C M hK6 ih V n a0 x2 x3 x4 h
        · refine z_iload_n C 1 dR_reached_52 rfl rfl ?_
          refine z_iconst (v := 1) C dR_reached_53 (by decide) ?_
          refine z_aload_n C 0 dR_reached_54 rfl rfl ?_
          refine z_getR C fl_R_27 dR_reached_55 h (fun t6 h => ?_)
          refine z_iload C 3 dR_reached_58 rfl ?_
          refine z_iald C rfl dR_reached_60 h (fun t7 h => ?_)
          refine z_ishl C dR_reached_61 ?_
          refine z_ior C dR_reached_62 ?_
          refine z_istore_n (lv' := [(2, .int (x2 ||| ((1 : Int32) <<< (t7 &&& 31)))), (0, va_rf (some a0)), (3, .int x3), (4, .int x4)]) (i := 2) C dR_reached_63 rfl (by decide) rfl ?_
          refine z_sub [1, 0, 2, 3] rfl ?_
          exact bR_reached_64 C M hK6 ih V n a0 ((x2 ||| ((1 : Int32) <<< (t7 &&& 31)))) x3 x4 h
def fR_reached_6 : Nat → zV → Nat → Nat → Int32 → Int32 → Option zR
  | 0 => fun _ _ _ _ _ => none
  | f9 + 1 => fun V n a0 x2 x3 =>
    (zgI V (some a0) [6] 0).bind fun t1 =>
    if t1 ≤ x3 then (
    zrI x2 V n) else (
    fR_reached_17 (fR_reached_6 f9) zF V n a0 x2 x3 (0 : Int32))
set_option maxHeartbeats 4000000 in
set_option maxRecDepth 100000 in
theorem bR_reached_6 {x : zX} {w : zR} (C : zC x prog_9_method_8_code "BarrierMarksModel" "reached" 5 0 0 (some .int)) (M : zM x (zc w) (zs w)) : ∀ (f9 : Nat) (V : zV) (n : Nat) (a0 : Nat) (x2 : Int32) (x3 : Int32), fR_reached_6 f9 V n a0 x2 x3 = some w → zZ x 5 0 0 w V n 6 [(0, va_rf (some a0)), (2, .int x2), (3, .int x3)] [] := by
  intro f9
  induction f9 with
  | zero =>
    intro V n a0 x2 x3 h
    cases h
  | succ f9 ih =>
    intro V n a0 x2 x3 h
    unfold fR_reached_6 at h
    refine z_iload_n C 2 dR_reached_6 rfl rfl ?_
    refine z_aload_n C 0 dR_reached_7 rfl rfl ?_
    refine z_getI C fl_R_96 dR_reached_8 h (fun t1 h => ?_)
    refine z_icmp_ge C 76 dR_reached_11 (by decide) h (fun h => ?_) (fun h => ?_)
    · refine z_iload_n C 1 dR_reached_76 rfl rfl ?_
      exact z_iret C M (Nat.zero_le _) (Nat.zero_le _) dR_reached_77 h
    · refine z_iconst (v := 0) C dR_reached_14 (by decide) ?_
      refine z_istore (lv' := [(4, .int (0 : Int32)), (0, va_rf (some a0)), (2, .int x2), (3, .int x3)]) C dR_reached_15 (by decide) rfl ?_
      refine z_sub [1, 2, 3, 0] rfl ?_
      exact bR_reached_17 C M ih zF V n a0 x2 x3 (0 : Int32) h
def fR_reached (V : zV) (n : Nat) (a0 : Nat) (x1 : Int32) : Option zR :=
    fR_reached_6 zF V n a0 (((1 : Int32) <<< (x1 &&& 31))) (0 : Int32)
set_option maxHeartbeats 4000000 in
set_option maxRecDepth 100000 in
theorem bR_reached {x : zX} {w : zR} (C : zC x prog_9_method_8_code "BarrierMarksModel" "reached" 5 0 0 (some .int)) (M : zM x (zc w) (zs w)) : ∀ (V : zV) (n : Nat) (a0 : Nat) (x1 : Int32), fR_reached V n a0 x1 = some w → zZ x 5 0 0 w V n 0 [(0, va_rf (some a0)), (1, .int x1)] [] := by
  intro V n a0 x1 h
  unfold fR_reached at h
  refine z_iconst (v := 1) C dR_reached_0 (by decide) ?_
  refine z_iload_n C 1 dR_reached_1 rfl rfl ?_
  refine z_ishl C dR_reached_2 ?_
  refine z_istore_n (lv' := [(2, .int ((1 : Int32) <<< (x1 &&& 31))), (0, va_rf (some a0)), (1, .int x1)]) (i := 2) C dR_reached_3 rfl (by decide) rfl ?_
  refine z_iconst (v := 0) C dR_reached_4 (by decide) ?_
  refine z_istore_n (lv' := [(3, .int (0 : Int32)), (2, .int ((1 : Int32) <<< (x1 &&& 31))), (0, va_rf (some a0)), (1, .int x1)]) (i := 3) C dR_reached_5 rfl (by decide) rfl ?_
  refine z_sub [2, 1, 0] rfl ?_
  exact bR_reached_6 C M zF V n a0 (((1 : Int32) <<< (x1 &&& 31))) (0 : Int32) h
theorem mR_reached {l : Launch} {D : va_G} {dA : Nat → ClassId} {V : zV} {n : Nat} (hl : l.stackTraces = false) {a0 : Nat} {x1 : Int32} {w : zR} (h : fR_reached V n a0 x1 = some w) : z_Met l ⟨"BarrierMarksModel", "reached", "(I)I"⟩ prog_9_method_8_code 5 (some .int) 0 0 (zc w) (zs w) [.ref a0, .int x1] D dA V n w := by exact z_ofZ hl (by decide) (Nat.le_of_ble_eq_true rfl) (fun x C M => bR_reached C M V n a0 x1 h)
/-! BarrierMarksModel.hasInto(I)Z -/
def fR_hasInto_28 (K4 : zV → Nat → Nat → Int32 → Int32 → Int32 → Option zR) (V : zV) (n : Nat) (a0 : Nat) (x1 : Int32) (x3 : Int32) (s0 : Int32) (s1 : Int32) : Option zR :=
    K4 V n a0 x1 (s0 ||| s1) (x3 + 1)
set_option maxHeartbeats 4000000 in
set_option maxRecDepth 100000 in
theorem bR_hasInto_28 {x : zX} {w : zR} {K4 : zV → Nat → Nat → Int32 → Int32 → Int32 → Option zR} (C : zC x prog_9_method_7_code "BarrierMarksModel" "hasInto" 4 0 0 (some .boolean)) (M : zM x (zc w) (zs w)) (hK4 : ∀ (V : zV) (n : Nat) (a0 : Nat) (x1 : Int32) (x2 : Int32) (x3 : Int32), K4 V n a0 x1 x2 x3 = some w → zZ x 4 0 0 w V n 4 [(0, va_rf (some a0)), (1, .int x1), (2, .int x2), (3, .int x3)] []) : ∀ (V : zV) (n : Nat) (a0 : Nat) (x1 : Int32) (x3 : Int32) (s0 : Int32) (s1 : Int32), fR_hasInto_28 K4 V n a0 x1 x3 s0 s1 = some w → zZ x 4 0 0 w V n 28 [(0, va_rf (some a0)), (1, .int x1), (3, .int x3)] [.int s1, .int s0] := by
  intro V n a0 x1 x3 s0 s1 h
  unfold fR_hasInto_28 at h
  refine z_ior C dR_hasInto_28 ?_
  refine z_istore_n (lv' := [(2, .int (s0 ||| s1)), (0, va_rf (some a0)), (1, .int x1), (3, .int x3)]) (i := 2) C dR_hasInto_29 rfl (by decide) rfl ?_
  refine z_iinc (lv' := [(3, .int (x3 + 1)), (2, .int (s0 ||| s1)), (0, va_rf (some a0)), (1, .int x1)]) C 3 dR_hasInto_30 rfl rfl (by decide) rfl ?_
  refine z_goto C 4 dR_hasInto_33 (by decide) ?_
  refine z_sub [2, 3, 1, 0] rfl ?_
  exact hK4 V n a0 x1 (s0 ||| s1) (x3 + 1) h
def fR_hasInto_4 : Nat → zV → Nat → Nat → Int32 → Int32 → Int32 → Option zR
  | 0 => fun _ _ _ _ _ _ => none
  | f9 + 1 => fun V n a0 x1 x2 x3 =>
    (zgI V (some a0) [6] 7).bind fun t1 =>
    if t1 ≤ x3 then (
    zrZ x2 V n) else (
    (zgR V (some a0) [6] 9).bind fun t2 =>
    (zaI V t2 0 x3).bind fun t3 =>
    if t3 = x1 then (
    fR_hasInto_28 (fR_hasInto_4 f9) V n a0 x1 x3 x2 (1 : Int32)) else (
    fR_hasInto_28 (fR_hasInto_4 f9) V n a0 x1 x3 x2 (0 : Int32)))
set_option maxHeartbeats 4000000 in
set_option maxRecDepth 100000 in
theorem bR_hasInto_4 {x : zX} {w : zR} (C : zC x prog_9_method_7_code "BarrierMarksModel" "hasInto" 4 0 0 (some .boolean)) (M : zM x (zc w) (zs w)) : ∀ (f9 : Nat) (V : zV) (n : Nat) (a0 : Nat) (x1 : Int32) (x2 : Int32) (x3 : Int32), fR_hasInto_4 f9 V n a0 x1 x2 x3 = some w → zZ x 4 0 0 w V n 4 [(0, va_rf (some a0)), (1, .int x1), (2, .int x2), (3, .int x3)] [] := by
  intro f9
  induction f9 with
  | zero =>
    intro V n a0 x1 x2 x3 h
    cases h
  | succ f9 ih =>
    intro V n a0 x1 x2 x3 h
    unfold fR_hasInto_4 at h
    refine z_iload_n C 3 dR_hasInto_4 rfl rfl ?_
    refine z_aload_n C 0 dR_hasInto_5 rfl rfl ?_
    refine z_getI C fl_R_103 dR_hasInto_6 h (fun t1 h => ?_)
    refine z_icmp_ge C 36 dR_hasInto_9 (by decide) h (fun h => ?_) (fun h => ?_)
    · refine z_iload_n C 2 dR_hasInto_36 rfl rfl ?_
      exact z_zret C M (Nat.zero_le _) (Nat.zero_le _) dR_hasInto_37 h
    · refine z_iload_n C 2 dR_hasInto_12 rfl rfl ?_
      refine z_aload_n C 0 dR_hasInto_13 rfl rfl ?_
      refine z_getR C fl_R_27 dR_hasInto_14 h (fun t2 h => ?_)
      refine z_iload_n C 3 dR_hasInto_17 rfl rfl ?_
      refine z_iald C rfl dR_hasInto_18 h (fun t3 h => ?_)
      refine z_iload_n C 1 dR_hasInto_19 rfl rfl ?_
      refine z_icmp_ne C 27 dR_hasInto_20 (by decide) h (fun h => ?_) (fun h => ?_)
      · refine z_iconst (v := 0) C dR_hasInto_27 (by decide) ?_
        refine z_sub [0, 1, 3] rfl ?_
        exact bR_hasInto_28 C M ih V n a0 x1 x3 x2 (0 : Int32) h
      · refine z_iconst (v := 1) C dR_hasInto_23 (by decide) ?_
        refine z_goto C 28 dR_hasInto_24 (by decide) ?_
        refine z_sub [0, 1, 3] rfl ?_
        exact bR_hasInto_28 C M ih V n a0 x1 x3 x2 (1 : Int32) h
def fR_hasInto (V : zV) (n : Nat) (a0 : Nat) (x1 : Int32) : Option zR :=
    fR_hasInto_4 zF V n a0 x1 (0 : Int32) (0 : Int32)
set_option maxHeartbeats 4000000 in
set_option maxRecDepth 100000 in
theorem bR_hasInto {x : zX} {w : zR} (C : zC x prog_9_method_7_code "BarrierMarksModel" "hasInto" 4 0 0 (some .boolean)) (M : zM x (zc w) (zs w)) : ∀ (V : zV) (n : Nat) (a0 : Nat) (x1 : Int32), fR_hasInto V n a0 x1 = some w → zZ x 4 0 0 w V n 0 [(0, va_rf (some a0)), (1, .int x1)] [] := by
  intro V n a0 x1 h
  unfold fR_hasInto at h
  refine z_iconst (v := 0) C dR_hasInto_0 (by decide) ?_
  refine z_istore_n (lv' := [(2, .int (0 : Int32)), (0, va_rf (some a0)), (1, .int x1)]) (i := 2) C dR_hasInto_1 rfl (by decide) rfl ?_
  refine z_iconst (v := 0) C dR_hasInto_2 (by decide) ?_
  refine z_istore_n (lv' := [(3, .int (0 : Int32)), (2, .int (0 : Int32)), (0, va_rf (some a0)), (1, .int x1)]) (i := 3) C dR_hasInto_3 rfl (by decide) rfl ?_
  refine z_sub [2, 3, 1, 0] rfl ?_
  exact bR_hasInto_4 C M zF V n a0 x1 (0 : Int32) (0 : Int32) h
theorem mR_hasInto {l : Launch} {D : va_G} {dA : Nat → ClassId} {V : zV} {n : Nat} (hl : l.stackTraces = false) {a0 : Nat} {x1 : Int32} {w : zR} (h : fR_hasInto V n a0 x1 = some w) : z_Met l ⟨"BarrierMarksModel", "hasInto", "(I)Z"⟩ prog_9_method_7_code 4 (some .boolean) 0 0 (zc w) (zs w) [.ref a0, .int x1] D dA V n w := by exact z_ofZ hl (by decide) (Nat.le_of_ble_eq_true rfl) (fun x C M => bR_hasInto C M V n a0 x1 h)
/-! BarrierMarksModel.channel(II)I -/
def fR_channel_77 (V : zV) (n : Nat) (a0 : Nat) (x1 : Int32) (x2 : Int32) (s0 : Option Nat) (s1 : Int32) : Option zR :=
    (zpI V s0 [6] 1 s1).bind fun V =>
    (zgI V (some a0) [6] 1).bind fun t1 =>
    if t1 ≤ 0 then (
    (zgR V (some a0) [6] 8).bind fun t2 =>
    (zgI V (some a0) [6] 7).bind fun t3 =>
    (zsI V t2 0 t3 x1).bind fun V =>
    (zgR V (some a0) [6] 9).bind fun t4 =>
    (zgI V (some a0) [6] 7).bind fun t5 =>
    (zsI V t4 0 t5 x2).bind fun V =>
    (zgI V (some a0) [6] 7).bind fun t6 =>
    (zpI V (some a0) [6] 7 ((t6 + (1 : Int32)))).bind fun V =>
    (zgI V (some a0) [6] 7).bind fun t7 =>
    zrI ((t7 - (1 : Int32))) V n) else (
    zrI (0 : Int32) V n)
set_option maxHeartbeats 4000000 in
set_option maxRecDepth 100000 in
theorem bR_channel_77 {x : zX} {w : zR} (C : zC x prog_9_method_9_code "BarrierMarksModel" "channel" 3 1 24 (some .int)) (M : zM x (zc w) (zs w)) : ∀ (V : zV) (n : Nat) (a0 : Nat) (x1 : Int32) (x2 : Int32) (s0 : Option Nat) (s1 : Int32), fR_channel_77 V n a0 x1 x2 s0 s1 = some w → zZ x 3 0 0 w V n 77 [(0, va_rf (some a0)), (1, .int x1), (2, .int x2)] [.int s1, va_rf s0] := by
  intro V n a0 x1 x2 s0 s1 h
  unfold fR_channel_77 at h
  refine z_putI C pf_R_100 (fun h => absurd h (by decide)) dR_channel_77 h (fun V h => ?_)
  refine z_aload_n C 0 dR_channel_80 rfl rfl ?_
  refine z_getI C fl_R_100 dR_channel_81 h (fun t1 h => ?_)
  refine z_if_le C 89 dR_channel_84 (by decide) h (fun h => ?_) (fun h => ?_)
  · refine z_aload_n C 0 dR_channel_89 rfl rfl ?_
    refine z_getR C fl_R_24 dR_channel_90 h (fun t2 h => ?_)
    refine z_aload_n C 0 dR_channel_93 rfl rfl ?_
    refine z_getI C fl_R_103 dR_channel_94 h (fun t3 h => ?_)
    refine z_iload_n C 1 dR_channel_97 rfl rfl ?_
    refine z_iast C rfl dR_channel_98 h (fun V h => ?_)
    refine z_aload_n C 0 dR_channel_99 rfl rfl ?_
    refine z_getR C fl_R_27 dR_channel_100 h (fun t4 h => ?_)
    refine z_aload_n C 0 dR_channel_103 rfl rfl ?_
    refine z_getI C fl_R_103 dR_channel_104 h (fun t5 h => ?_)
    refine z_iload_n C 2 dR_channel_107 rfl rfl ?_
    refine z_iast C rfl dR_channel_108 h (fun V h => ?_)
    refine z_aload_n C 0 dR_channel_109 rfl rfl ?_
    refine z_dup C dR_channel_110 (zrfcat _) ?_
    refine z_getI C fl_R_103 dR_channel_111 h (fun t6 h => ?_)
    refine z_iconst (v := 1) C dR_channel_114 (by decide) ?_
    refine z_iadd C dR_channel_115 ?_
    refine z_putI C pf_R_103 (fun h => absurd h (by decide)) dR_channel_116 h (fun V h => ?_)
    refine z_aload_n C 0 dR_channel_119 rfl rfl ?_
    refine z_getI C fl_R_103 dR_channel_120 h (fun t7 h => ?_)
    refine z_iconst (v := 1) C dR_channel_123 (by decide) ?_
    refine z_isub C dR_channel_124 ?_
    exact z_iret C M (Nat.zero_le _) (Nat.zero_le _) dR_channel_125 h
  · refine z_iconst (v := 0) C dR_channel_87 (by decide) ?_
    exact z_iret C M (Nat.zero_le _) (Nat.zero_le _) dR_channel_88 h
def fR_channel_22 (V : zV) (n : Nat) (a0 : Nat) (x1 : Int32) (x2 : Int32) (s0 : Option Nat) : Option zR :=
    fR_channel_77 V n a0 x1 x2 s0 (1 : Int32)
set_option maxHeartbeats 4000000 in
set_option maxRecDepth 100000 in
theorem bR_channel_22 {x : zX} {w : zR} (C : zC x prog_9_method_9_code "BarrierMarksModel" "channel" 3 1 24 (some .int)) (M : zM x (zc w) (zs w)) : ∀ (V : zV) (n : Nat) (a0 : Nat) (x1 : Int32) (x2 : Int32) (s0 : Option Nat), fR_channel_22 V n a0 x1 x2 s0 = some w → zZ x 3 0 0 w V n 22 [(0, va_rf (some a0)), (1, .int x1), (2, .int x2)] [va_rf s0] := by
  intro V n a0 x1 x2 s0 h
  unfold fR_channel_22 at h
  refine z_iconst (v := 1) C dR_channel_22 (by decide) ?_
  refine z_goto C 77 dR_channel_23 (by decide) ?_
  exact bR_channel_77 C M V n a0 x1 x2 s0 (1 : Int32) h
def fR_channel_42 (V : zV) (n : Nat) (a0 : Nat) (x1 : Int32) (x2 : Int32) (s0 : Option Nat) : Option zR :=
    fR_channel_77 V n a0 x1 x2 s0 (2 : Int32)
set_option maxHeartbeats 4000000 in
set_option maxRecDepth 100000 in
theorem bR_channel_42 {x : zX} {w : zR} (C : zC x prog_9_method_9_code "BarrierMarksModel" "channel" 3 1 24 (some .int)) (M : zM x (zc w) (zs w)) : ∀ (V : zV) (n : Nat) (a0 : Nat) (x1 : Int32) (x2 : Int32) (s0 : Option Nat), fR_channel_42 V n a0 x1 x2 s0 = some w → zZ x 3 0 0 w V n 42 [(0, va_rf (some a0)), (1, .int x1), (2, .int x2)] [va_rf s0] := by
  intro V n a0 x1 x2 s0 h
  unfold fR_channel_42 at h
  refine z_iconst (v := 2) C dR_channel_42 (by decide) ?_
  refine z_goto C 77 dR_channel_43 (by decide) ?_
  exact bR_channel_77 C M V n a0 x1 x2 s0 (2 : Int32) h
def fR_channel_76 (V : zV) (n : Nat) (a0 : Nat) (x1 : Int32) (x2 : Int32) (s0 : Option Nat) : Option zR :=
    fR_channel_77 V n a0 x1 x2 s0 (0 : Int32)
set_option maxHeartbeats 4000000 in
set_option maxRecDepth 100000 in
theorem bR_channel_76 {x : zX} {w : zR} (C : zC x prog_9_method_9_code "BarrierMarksModel" "channel" 3 1 24 (some .int)) (M : zM x (zc w) (zs w)) : ∀ (V : zV) (n : Nat) (a0 : Nat) (x1 : Int32) (x2 : Int32) (s0 : Option Nat), fR_channel_76 V n a0 x1 x2 s0 = some w → zZ x 3 0 0 w V n 76 [(0, va_rf (some a0)), (1, .int x1), (2, .int x2)] [va_rf s0] := by
  intro V n a0 x1 x2 s0 h
  unfold fR_channel_76 at h
  refine z_iconst (v := 0) C dR_channel_76 (by decide) ?_
  exact bR_channel_77 C M V n a0 x1 x2 s0 (0 : Int32) h
def fR_channel_72 (V : zV) (n : Nat) (a0 : Nat) (x1 : Int32) (x2 : Int32) (s0 : Option Nat) : Option zR :=
    fR_channel_77 V n a0 x1 x2 s0 (3 : Int32)
set_option maxHeartbeats 4000000 in
set_option maxRecDepth 100000 in
theorem bR_channel_72 {x : zX} {w : zR} (C : zC x prog_9_method_9_code "BarrierMarksModel" "channel" 3 1 24 (some .int)) (M : zM x (zc w) (zs w)) : ∀ (V : zV) (n : Nat) (a0 : Nat) (x1 : Int32) (x2 : Int32) (s0 : Option Nat), fR_channel_72 V n a0 x1 x2 s0 = some w → zZ x 3 0 0 w V n 72 [(0, va_rf (some a0)), (1, .int x1), (2, .int x2)] [va_rf s0] := by
  intro V n a0 x1 x2 s0 h
  unfold fR_channel_72 at h
  refine z_iconst (v := 3) C dR_channel_72 (by decide) ?_
  refine z_goto C 77 dR_channel_73 (by decide) ?_
  exact bR_channel_77 C M V n a0 x1 x2 s0 (3 : Int32) h
def fR_channel (V : zV) (n : Nat) (a0 : Nat) (x1 : Int32) (x2 : Int32) : Option zR :=
    if x1 < (-1 : Int32) then (
    fR_channel_22 V n a0 x1 x2 (some a0)) else (
    (zgI V (some a0) [6] 0).bind fun t1 =>
    if t1 ≤ x1 then (
    fR_channel_22 V n a0 x1 x2 (some a0)) else (
    (z_obj V (some a0) [6]).bind fun o => zcI (fR_isTask V n o.1 x2) fun t2 V n =>
    if t2 = 0 then (
    fR_channel_22 V n a0 x1 x2 (some a0)) else (
    (zgI V (some a0) [6] 7).bind fun t3 =>
    if t3 = (16 : Int32) then (
    fR_channel_42 V n a0 x1 x2 (some a0)) else (
    (zgI V (some a0) [6] 2).bind fun t4 =>
    if t4 = 0 then (
    if x1 = (-1 : Int32) then (
    fR_channel_76 V n a0 x1 x2 (some a0)) else (
    (z_obj V (some a0) [6]).bind fun o => zcI (fR_reached V n o.1 x2) fun t5 V n =>
    if ((t5 >>> (x1 &&& 31)) &&& (1 : Int32)) = (1 : Int32) then (
    fR_channel_72 V n a0 x1 x2 (some a0)) else (
    (z_obj V (some a0) [6]).bind fun o => zcI (fR_hasInto V n o.1 x1) fun t6 V n =>
    if t6 = 0 then (
    fR_channel_72 V n a0 x1 x2 (some a0)) else (
    fR_channel_76 V n a0 x1 x2 (some a0))))) else (
    fR_channel_42 V n a0 x1 x2 (some a0))))))
set_option maxHeartbeats 4000000 in
set_option maxRecDepth 100000 in
theorem bR_channel {x : zX} {w : zR} (C : zC x prog_9_method_9_code "BarrierMarksModel" "channel" 3 1 24 (some .int)) (M : zM x (zc w) (zs w)) : ∀ (V : zV) (n : Nat) (a0 : Nat) (x1 : Int32) (x2 : Int32), fR_channel V n a0 x1 x2 = some w → zZ x 3 0 0 w V n 0 [(0, va_rf (some a0)), (1, .int x1), (2, .int x2)] [] := by
  intro V n a0 x1 x2 h
  unfold fR_channel at h
  refine z_aload_n C 0 dR_channel_0 rfl rfl ?_
  refine z_iload_n C 1 dR_channel_1 rfl rfl ?_
  refine z_iconst (v := (-1)) C dR_channel_2 (by decide) ?_
  refine z_icmp_lt C 22 dR_channel_3 (by decide) h (fun h => ?_) (fun h => ?_)
  · exact bR_channel_22 C M V n a0 x1 x2 (some a0) h
  · refine z_iload_n C 1 dR_channel_6 rfl rfl ?_
    refine z_aload_n C 0 dR_channel_7 rfl rfl ?_
    refine z_getI C fl_R_96 dR_channel_8 h (fun t1 h => ?_)
    refine z_icmp_ge C 22 dR_channel_11 (by decide) h (fun h => ?_) (fun h => ?_)
    · exact bR_channel_22 C M V n a0 x1 x2 (some a0) h
    · refine z_aload_n C 0 dR_channel_14 rfl rfl ?_
      refine z_iload_n C 2 dR_channel_15 rfl rfl ?_
      refine z_vPI (ci := 6) C M zRmP [.int x2] cv_R_109 rfl (by decide) (by decide) rfl rfl (by first | decide | (simp [zrfcat, zicat, zlcat]; done)) dR_channel_16 (fun b => fR_isTask V n b x2) h (fun b w1 e1 l D dA hl => mR_isTask hl e1) (fun t2 V n h => ?_)
      refine z_if_ne C 26 dR_channel_19 (by decide) h (fun h => ?_) (fun h => ?_)
      · refine z_aload_n C 0 dR_channel_26 rfl rfl ?_
        refine z_getI C fl_R_103 dR_channel_27 h (fun t3 h => ?_)
        refine z_bipush (v := 16) C dR_channel_30 (by decide) ?_
        refine z_icmp_eq C 42 dR_channel_32 (by decide) h (fun h => ?_) (fun h => ?_)
        · exact bR_channel_42 C M V n a0 x1 x2 (some a0) h
        · refine z_aload_n C 0 dR_channel_35 rfl rfl ?_
          refine z_getI C fl_R_113 dR_channel_36 h (fun t4 h => ?_)
          refine z_if_eq C 46 dR_channel_39 (by decide) h (fun h => ?_) (fun h => ?_)
          · refine z_iload_n C 1 dR_channel_46 rfl rfl ?_
            refine z_iconst (v := (-1)) C dR_channel_47 (by decide) ?_
            refine z_icmp_eq C 76 dR_channel_48 (by decide) h (fun h => ?_) (fun h => ?_)
            · exact bR_channel_76 C M V n a0 x1 x2 (some a0) h
            · refine z_aload_n C 0 dR_channel_51 rfl rfl ?_
              refine z_iload_n C 2 dR_channel_52 rfl rfl ?_
              refine z_vPI (ci := 6) C M zRmP [.int x2] cv_R_117 rfl (by decide) (by decide) rfl rfl (by first | decide | (simp [zrfcat, zicat, zlcat]; done)) dR_channel_53 (fun b => fR_reached V n b x2) h (fun b w1 e1 l D dA hl => mR_reached hl e1) (fun t5 V n h => ?_)
              refine z_iload_n C 1 dR_channel_56 rfl rfl ?_
              refine z_ishr C dR_channel_57 ?_
              refine z_iconst (v := 1) C dR_channel_58 (by decide) ?_
              refine z_iand C dR_channel_59 ?_
              refine z_iconst (v := 1) C dR_channel_60 (by decide) ?_
              refine z_icmp_eq C 72 dR_channel_61 (by decide) h (fun h => ?_) (fun h => ?_)
              · exact bR_channel_72 C M V n a0 x1 x2 (some a0) h
              · refine z_aload_n C 0 dR_channel_64 rfl rfl ?_
                refine z_iload_n C 1 dR_channel_65 rfl rfl ?_
                refine z_vPI (ci := 6) C M zRmP [.int x1] cv_R_121 rfl (by decide) (by decide) rfl rfl (by first | decide | (simp [zrfcat, zicat, zlcat]; done)) dR_channel_66 (fun b => fR_hasInto V n b x1) h (fun b w1 e1 l D dA hl => mR_hasInto hl e1) (fun t6 V n h => ?_)
                refine z_if_ne C 76 dR_channel_69 (by decide) h (fun h => ?_) (fun h => ?_)
                · exact bR_channel_76 C M V n a0 x1 x2 (some a0) h
                · exact bR_channel_72 C M V n a0 x1 x2 (some a0) h
          · exact bR_channel_42 C M V n a0 x1 x2 (some a0) h
      · exact bR_channel_22 C M V n a0 x1 x2 (some a0) h
theorem mR_channel {l : Launch} {D : va_G} {dA : Nat → ClassId} {V : zV} {n : Nat} (hl : l.stackTraces = false) {a0 : Nat} {x1 : Int32} {x2 : Int32} {w : zR} (h : fR_channel V n a0 x1 x2 = some w) : z_Met l ⟨"BarrierMarksModel", "channel", "(II)I"⟩ prog_9_method_9_code 3 (some .int) 1 24 (zc w) (zs w) [.ref a0, .int x1, .int x2] D dA V n w := by exact z_ofZ hl (by decide) (Nat.le_of_ble_eq_true rfl) (fun x C M => bR_channel C M V n a0 x1 x2 h)
/-! BarrierMarksModel.isChannel(I)Z -/
def fR_isChannel_16 (V : zV) (n : Nat) : Option zR :=
    zrZ (0 : Int32) V n
set_option maxHeartbeats 4000000 in
set_option maxRecDepth 100000 in
theorem bR_isChannel_16 {x : zX} {w : zR} (C : zC x prog_9_method_4_code "BarrierMarksModel" "isChannel" 2 0 0 (some .boolean)) (M : zM x (zc w) (zs w)) : ∀ (V : zV) (n : Nat), fR_isChannel_16 V n = some w → zZ x 2 0 0 w V n 16 [] [] := by
  intro V n h
  unfold fR_isChannel_16 at h
  refine z_iconst (v := 0) C dR_isChannel_16 (by decide) ?_
  exact z_zret C M (Nat.zero_le _) (Nat.zero_le _) dR_isChannel_17 h
def fR_isChannel (V : zV) (n : Nat) (a0 : Nat) (x1 : Int32) : Option zR :=
    if x1 < 0 then (
    fR_isChannel_16 V n) else (
    (zgI V (some a0) [6] 7).bind fun t1 =>
    if t1 ≤ x1 then (
    fR_isChannel_16 V n) else (
    zrZ (1 : Int32) V n))
set_option maxHeartbeats 4000000 in
set_option maxRecDepth 100000 in
theorem bR_isChannel {x : zX} {w : zR} (C : zC x prog_9_method_4_code "BarrierMarksModel" "isChannel" 2 0 0 (some .boolean)) (M : zM x (zc w) (zs w)) : ∀ (V : zV) (n : Nat) (a0 : Nat) (x1 : Int32), fR_isChannel V n a0 x1 = some w → zZ x 2 0 0 w V n 0 [(0, va_rf (some a0)), (1, .int x1)] [] := by
  intro V n a0 x1 h
  unfold fR_isChannel at h
  refine z_iload_n C 1 dR_isChannel_0 rfl rfl ?_
  refine z_if_lt C 16 dR_isChannel_1 (by decide) h (fun h => ?_) (fun h => ?_)
  · refine z_sub [] rfl ?_
    exact bR_isChannel_16 C M V n h
  · refine z_iload_n C 1 dR_isChannel_4 rfl rfl ?_
    refine z_aload_n C 0 dR_isChannel_5 rfl rfl ?_
    refine z_getI C fl_R_103 dR_isChannel_6 h (fun t1 h => ?_)
    refine z_icmp_ge C 16 dR_isChannel_9 (by decide) h (fun h => ?_) (fun h => ?_)
    · refine z_sub [] rfl ?_
      exact bR_isChannel_16 C M V n h
    · refine z_iconst (v := 1) C dR_isChannel_12 (by decide) ?_
      refine z_goto C 17 dR_isChannel_13 (by decide) ?_
      exact z_zret C M (Nat.zero_le _) (Nat.zero_le _) dR_isChannel_17 h
theorem mR_isChannel {l : Launch} {D : va_G} {dA : Nat → ClassId} {V : zV} {n : Nat} (hl : l.stackTraces = false) {a0 : Nat} {x1 : Int32} {w : zR} (h : fR_isChannel V n a0 x1 = some w) : z_Met l ⟨"BarrierMarksModel", "isChannel", "(I)Z"⟩ prog_9_method_4_code 2 (some .boolean) 0 0 (zc w) (zs w) [.ref a0, .int x1] D dA V n w := by exact z_ofZ hl (by decide) (Nat.le_of_ble_eq_true rfl) (fun x C M => bR_isChannel C M V n a0 x1 h)
/-! BarrierMarksModel.isSource(I)Z -/
def fR_isSource (V : zV) (n : Nat) (a0 : Nat) (x1 : Int32) : Option zR :=
    (zgR V (some a0) [6] 8).bind fun t1 =>
    (zaI V t1 0 x1).bind fun t2 =>
    if t2 = (-1 : Int32) then (
    zrZ (1 : Int32) V n) else (
    zrZ (0 : Int32) V n)
set_option maxHeartbeats 4000000 in
set_option maxRecDepth 100000 in
theorem bR_isSource {x : zX} {w : zR} (C : zC x prog_9_method_6_code "BarrierMarksModel" "isSource" 2 0 0 (some .boolean)) (M : zM x (zc w) (zs w)) : ∀ (V : zV) (n : Nat) (a0 : Nat) (x1 : Int32), fR_isSource V n a0 x1 = some w → zZ x 2 0 0 w V n 0 [(0, va_rf (some a0)), (1, .int x1)] [] := by
  intro V n a0 x1 h
  unfold fR_isSource at h
  refine z_aload_n C 0 dR_isSource_0 rfl rfl ?_
  refine z_getR C fl_R_24 dR_isSource_1 h (fun t1 h => ?_)
  refine z_iload_n C 1 dR_isSource_4 rfl rfl ?_
  refine z_iald C rfl dR_isSource_5 h (fun t2 h => ?_)
  refine z_iconst (v := (-1)) C dR_isSource_6 (by decide) ?_
  refine z_icmp_ne C 14 dR_isSource_7 (by decide) h (fun h => ?_) (fun h => ?_)
  · refine z_iconst (v := 0) C dR_isSource_14 (by decide) ?_
    exact z_zret C M (Nat.zero_le _) (Nat.zero_le _) dR_isSource_15 h
  · refine z_iconst (v := 1) C dR_isSource_10 (by decide) ?_
    refine z_goto C 15 dR_isSource_11 (by decide) ?_
    exact z_zret C M (Nat.zero_le _) (Nat.zero_le _) dR_isSource_15 h
theorem mR_isSource {l : Launch} {D : va_G} {dA : Nat → ClassId} {V : zV} {n : Nat} (hl : l.stackTraces = false) {a0 : Nat} {x1 : Int32} {w : zR} (h : fR_isSource V n a0 x1 = some w) : z_Met l ⟨"BarrierMarksModel", "isSource", "(I)Z"⟩ prog_9_method_6_code 2 (some .boolean) 0 0 (zc w) (zs w) [.ref a0, .int x1] D dA V n w := by exact z_ofZ hl (by decide) (Nat.le_of_ble_eq_true rfl) (fun x C M => bR_isSource C M V n a0 x1 h)
/-! BarrierMarksModel.send(IJ)I -/
def fR_send_47 (V : zV) (n : Nat) (a0 : Nat) (x1 : Int32) (x2 : Int64) (s0 : Option Nat) (s1 : Int32) : Option zR :=
    (zpI V s0 [6] 1 s1).bind fun V =>
    (zgI V (some a0) [6] 1).bind fun t1 =>
    if t1 ≤ 0 then (
    (zpZ V (some a0) [6] 2 (1 : Int32)).bind fun V =>
    (zgR V (some a0) [6] 13).bind fun t2 =>
    (zgR V (some a0) [6] 14).bind fun t3 =>
    (zaI V t3 0 x1).bind fun t4 =>
    (zsL V t2 1 ((((200 : Int32) * x1) + t4)) x2).bind fun V =>
    (zgR V (some a0) [6] 14).bind fun t5 =>
    (zaI V t5 0 x1).bind fun t6 =>
    (zsI V t5 0 x1 ((t6 + (1 : Int32)))).bind fun V =>
    (zgR V (some a0) [6] 14).bind fun t7 =>
    (zaI V t7 0 x1).bind fun t8 =>
    zrI t8 V n) else (
    zrI (0 : Int32) V n)
set_option maxHeartbeats 4000000 in
set_option maxRecDepth 100000 in
theorem bR_send_47 {x : zX} {w : zR} (C : zC x prog_9_method_10_code "BarrierMarksModel" "send" 4 1 21 (some .int)) (M : zM x (zc w) (zs w)) : ∀ (V : zV) (n : Nat) (a0 : Nat) (x1 : Int32) (x2 : Int64) (s0 : Option Nat) (s1 : Int32), fR_send_47 V n a0 x1 x2 s0 s1 = some w → zZ x 4 0 0 w V n 47 [(0, va_rf (some a0)), (1, .int x1), (2, .long x2)] [.int s1, va_rf s0] := by
  intro V n a0 x1 x2 s0 s1 h
  unfold fR_send_47 at h
  refine z_putI C pf_R_100 (fun h => absurd h (by decide)) dR_send_47 h (fun V h => ?_)
  refine z_aload_n C 0 dR_send_50 rfl rfl ?_
  refine z_getI C fl_R_100 dR_send_51 h (fun t1 h => ?_)
  refine z_if_le C 59 dR_send_54 (by decide) h (fun h => ?_) (fun h => ?_)
  · refine z_aload_n C 0 dR_send_59 rfl rfl ?_
    refine z_iconst (v := 1) C dR_send_60 (by decide) ?_
    refine z_putZ C pf_R_113 (fun h => absurd h (by decide)) dR_send_61 h (fun V h => ?_)
    refine z_aload_n C 0 dR_send_64 rfl rfl ?_
    refine z_getR C fl_R_39 dR_send_65 h (fun t2 h => ?_)
    refine z_sipush (v := 200) C dR_send_68 (by decide) ?_
    refine z_iload_n C 1 dR_send_71 rfl rfl ?_
    refine z_imul C dR_send_72 ?_
    refine z_aload_n C 0 dR_send_73 rfl rfl ?_
    refine z_getR C fl_R_42 dR_send_74 h (fun t3 h => ?_)
    refine z_iload_n C 1 dR_send_77 rfl rfl ?_
    refine z_iald C rfl dR_send_78 h (fun t4 h => ?_)
    refine z_iadd C dR_send_79 ?_
    refine z_lload_n C 2 dR_send_80 rfl rfl ?_
    refine z_last C rfl dR_send_81 h (fun V h => ?_)
    refine z_aload_n C 0 dR_send_82 rfl rfl ?_
    refine z_getR C fl_R_42 dR_send_83 h (fun t5 h => ?_)
    refine z_iload_n C 1 dR_send_86 rfl rfl ?_
    refine z_dup2_11 C dR_send_87 rfl (zrfcat _) ?_
    refine z_iald C rfl dR_send_88 h (fun t6 h => ?_)
    refine z_iconst (v := 1) C dR_send_89 (by decide) ?_
    refine z_iadd C dR_send_90 ?_
    refine z_iast C rfl dR_send_91 h (fun V h => ?_)
    refine z_aload_n C 0 dR_send_92 rfl rfl ?_
    refine z_getR C fl_R_42 dR_send_93 h (fun t7 h => ?_)
    refine z_iload_n C 1 dR_send_96 rfl rfl ?_
    refine z_iald C rfl dR_send_97 h (fun t8 h => ?_)
    exact z_iret C M (Nat.zero_le _) (Nat.zero_le _) dR_send_98 h
  · refine z_iconst (v := 0) C dR_send_57 (by decide) ?_
    exact z_iret C M (Nat.zero_le _) (Nat.zero_le _) dR_send_58 h
def fR_send_42 (V : zV) (n : Nat) (a0 : Nat) (x1 : Int32) (x2 : Int64) (s0 : Option Nat) : Option zR :=
    fR_send_47 V n a0 x1 x2 s0 (2 : Int32)
set_option maxHeartbeats 4000000 in
set_option maxRecDepth 100000 in
theorem bR_send_42 {x : zX} {w : zR} (C : zC x prog_9_method_10_code "BarrierMarksModel" "send" 4 1 21 (some .int)) (M : zM x (zc w) (zs w)) : ∀ (V : zV) (n : Nat) (a0 : Nat) (x1 : Int32) (x2 : Int64) (s0 : Option Nat), fR_send_42 V n a0 x1 x2 s0 = some w → zZ x 4 0 0 w V n 42 [(0, va_rf (some a0)), (1, .int x1), (2, .long x2)] [va_rf s0] := by
  intro V n a0 x1 x2 s0 h
  unfold fR_send_42 at h
  refine z_iconst (v := 2) C dR_send_42 (by decide) ?_
  refine z_goto C 47 dR_send_43 (by decide) ?_
  exact bR_send_47 C M V n a0 x1 x2 s0 (2 : Int32) h
def fR_send (V : zV) (n : Nat) (a0 : Nat) (x1 : Int32) (x2 : Int64) : Option zR :=
    (z_obj V (some a0) [6]).bind fun o => zcI (fR_isChannel V n o.1 x1) fun t1 V n =>
    if t1 = 0 then (
    fR_send_47 V n a0 x1 x2 (some a0) (1 : Int32)) else (
    (z_obj V (some a0) [6]).bind fun o => zcI (fR_isSource V n o.1 x1) fun t2 V n =>
    if t2 = 0 then (
    fR_send_42 V n a0 x1 x2 (some a0)) else (
    (zgR V (some a0) [6] 15).bind fun t3 =>
    (zaI V t3 2 x1).bind fun t4 =>
    if t4 = 0 then (
    (zgR V (some a0) [6] 14).bind fun t5 =>
    (zaI V t5 0 x1).bind fun t6 =>
    if t6 = (200 : Int32) then (
    fR_send_42 V n a0 x1 x2 (some a0)) else (
    fR_send_47 V n a0 x1 x2 (some a0) (0 : Int32))) else (
    fR_send_42 V n a0 x1 x2 (some a0))))
set_option maxHeartbeats 4000000 in
set_option maxRecDepth 100000 in
theorem bR_send {x : zX} {w : zR} (C : zC x prog_9_method_10_code "BarrierMarksModel" "send" 4 1 21 (some .int)) (M : zM x (zc w) (zs w)) : ∀ (V : zV) (n : Nat) (a0 : Nat) (x1 : Int32) (x2 : Int64), fR_send V n a0 x1 x2 = some w → zZ x 4 0 0 w V n 0 [(0, va_rf (some a0)), (1, .int x1), (2, .long x2)] [] := by
  intro V n a0 x1 x2 h
  unfold fR_send at h
  refine z_aload_n C 0 dR_send_0 rfl rfl ?_
  refine z_aload_n C 0 dR_send_1 rfl rfl ?_
  refine z_iload_n C 1 dR_send_2 rfl rfl ?_
  refine z_vPI (ci := 6) C M zRmP [.int x1] cv_R_124 rfl (by decide) (by decide) rfl rfl (by first | decide | (simp [zrfcat, zicat, zlcat]; done)) dR_send_3 (fun b => fR_isChannel V n b x1) h (fun b w1 e1 l D dA hl => mR_isChannel hl e1) (fun t1 V n h => ?_)
  refine z_if_ne C 13 dR_send_6 (by decide) h (fun h => ?_) (fun h => ?_)
  · refine z_aload_n C 0 dR_send_13 rfl rfl ?_
    refine z_iload_n C 1 dR_send_14 rfl rfl ?_
    refine z_vPI (ci := 6) C M zRmP [.int x1] cv_R_127 rfl (by decide) (by decide) rfl rfl (by first | decide | (simp [zrfcat, zicat, zlcat]; done)) dR_send_15 (fun b => fR_isSource V n b x1) h (fun b w1 e1 l D dA hl => mR_isSource hl e1) (fun t2 V n h => ?_)
    refine z_if_eq C 42 dR_send_18 (by decide) h (fun h => ?_) (fun h => ?_)
    · exact bR_send_42 C M V n a0 x1 x2 (some a0) h
    · refine z_aload_n C 0 dR_send_21 rfl rfl ?_
      refine z_getR C fl_R_45 dR_send_22 h (fun t3 h => ?_)
      refine z_iload_n C 1 dR_send_25 rfl rfl ?_
      refine z_zald C rfl dR_send_26 h (fun t4 h => ?_)
      refine z_if_ne C 42 dR_send_27 (by decide) h (fun h => ?_) (fun h => ?_)
      · exact bR_send_42 C M V n a0 x1 x2 (some a0) h
      · refine z_aload_n C 0 dR_send_30 rfl rfl ?_
        refine z_getR C fl_R_42 dR_send_31 h (fun t5 h => ?_)
        refine z_iload_n C 1 dR_send_34 rfl rfl ?_
        refine z_iald C rfl dR_send_35 h (fun t6 h => ?_)
        refine z_sipush (v := 200) C dR_send_36 (by decide) ?_
        refine z_icmp_ne C 46 dR_send_39 (by decide) h (fun h => ?_) (fun h => ?_)
        · refine z_iconst (v := 0) C dR_send_46 (by decide) ?_
          exact bR_send_47 C M V n a0 x1 x2 (some a0) (0 : Int32) h
        · exact bR_send_42 C M V n a0 x1 x2 (some a0) h
  · refine z_iconst (v := 1) C dR_send_9 (by decide) ?_
    refine z_goto C 47 dR_send_10 (by decide) ?_
    exact bR_send_47 C M V n a0 x1 x2 (some a0) (1 : Int32) h
theorem mR_send {l : Launch} {D : va_G} {dA : Nat → ClassId} {V : zV} {n : Nat} (hl : l.stackTraces = false) {a0 : Nat} {x1 : Int32} {x2 : Int64} {w : zR} (h : fR_send V n a0 x1 x2 = some w) : z_Met l ⟨"BarrierMarksModel", "send", "(IJ)I"⟩ prog_9_method_10_code 4 (some .int) 1 21 (zc w) (zs w) [.ref a0, .int x1, .long x2] D dA V n w := by exact z_ofZ hl (by decide) (Nat.le_of_ble_eq_true rfl) (fun x C M => bR_send C M V n a0 x1 x2 h)
/-! BarrierMarksModel.finish(I)I -/
def fR_finish_35 (V : zV) (n : Nat) (a0 : Nat) (x1 : Int32) (s0 : Option Nat) (s1 : Int32) : Option zR :=
    (zpI V s0 [6] 1 s1).bind fun V =>
    (zgI V (some a0) [6] 1).bind fun t1 =>
    if t1 ≤ 0 then (
    (zpZ V (some a0) [6] 2 (1 : Int32)).bind fun V =>
    (zgR V (some a0) [6] 15).bind fun t2 =>
    (zsZ V t2 2 x1 (1 : Int32)).bind fun V =>
    (zgR V (some a0) [6] 14).bind fun t3 =>
    (zaI V t3 0 x1).bind fun t4 =>
    zrI t4 V n) else (
    zrI (0 : Int32) V n)
set_option maxHeartbeats 4000000 in
set_option maxRecDepth 100000 in
theorem bR_finish_35 {x : zX} {w : zR} (C : zC x prog_9_method_11_code "BarrierMarksModel" "finish" 2 1 21 (some .int)) (M : zM x (zc w) (zs w)) : ∀ (V : zV) (n : Nat) (a0 : Nat) (x1 : Int32) (s0 : Option Nat) (s1 : Int32), fR_finish_35 V n a0 x1 s0 s1 = some w → zZ x 2 0 0 w V n 35 [(0, va_rf (some a0)), (1, .int x1)] [.int s1, va_rf s0] := by
  intro V n a0 x1 s0 s1 h
  unfold fR_finish_35 at h
  refine z_putI C pf_R_100 (fun h => absurd h (by decide)) dR_finish_35 h (fun V h => ?_)
  refine z_aload_n C 0 dR_finish_38 rfl rfl ?_
  refine z_getI C fl_R_100 dR_finish_39 h (fun t1 h => ?_)
  refine z_if_le C 47 dR_finish_42 (by decide) h (fun h => ?_) (fun h => ?_)
  · refine z_aload_n C 0 dR_finish_47 rfl rfl ?_
    refine z_iconst (v := 1) C dR_finish_48 (by decide) ?_
    refine z_putZ C pf_R_113 (fun h => absurd h (by decide)) dR_finish_49 h (fun V h => ?_)
    refine z_aload_n C 0 dR_finish_52 rfl rfl ?_
    refine z_getR C fl_R_45 dR_finish_53 h (fun t2 h => ?_)
    refine z_iload_n C 1 dR_finish_56 rfl rfl ?_
    refine z_iconst (v := 1) C dR_finish_57 (by decide) ?_
    refine z_zast C rfl dR_finish_58 h (fun V h => ?_)
    refine z_aload_n C 0 dR_finish_59 rfl rfl ?_
    refine z_getR C fl_R_42 dR_finish_60 h (fun t3 h => ?_)
    refine z_iload_n C 1 dR_finish_63 rfl rfl ?_
    refine z_iald C rfl dR_finish_64 h (fun t4 h => ?_)
    exact z_iret C M (Nat.zero_le _) (Nat.zero_le _) dR_finish_65 h
  · refine z_iconst (v := 0) C dR_finish_45 (by decide) ?_
    exact z_iret C M (Nat.zero_le _) (Nat.zero_le _) dR_finish_46 h
def fR_finish_30 (V : zV) (n : Nat) (a0 : Nat) (x1 : Int32) (s0 : Option Nat) : Option zR :=
    fR_finish_35 V n a0 x1 s0 (2 : Int32)
set_option maxHeartbeats 4000000 in
set_option maxRecDepth 100000 in
theorem bR_finish_30 {x : zX} {w : zR} (C : zC x prog_9_method_11_code "BarrierMarksModel" "finish" 2 1 21 (some .int)) (M : zM x (zc w) (zs w)) : ∀ (V : zV) (n : Nat) (a0 : Nat) (x1 : Int32) (s0 : Option Nat), fR_finish_30 V n a0 x1 s0 = some w → zZ x 2 0 0 w V n 30 [(0, va_rf (some a0)), (1, .int x1)] [va_rf s0] := by
  intro V n a0 x1 s0 h
  unfold fR_finish_30 at h
  refine z_iconst (v := 2) C dR_finish_30 (by decide) ?_
  refine z_goto C 35 dR_finish_31 (by decide) ?_
  exact bR_finish_35 C M V n a0 x1 s0 (2 : Int32) h
def fR_finish (V : zV) (n : Nat) (a0 : Nat) (x1 : Int32) : Option zR :=
    (z_obj V (some a0) [6]).bind fun o => zcI (fR_isChannel V n o.1 x1) fun t1 V n =>
    if t1 = 0 then (
    fR_finish_35 V n a0 x1 (some a0) (1 : Int32)) else (
    (z_obj V (some a0) [6]).bind fun o => zcI (fR_isSource V n o.1 x1) fun t2 V n =>
    if t2 = 0 then (
    fR_finish_30 V n a0 x1 (some a0)) else (
    (zgR V (some a0) [6] 15).bind fun t3 =>
    (zaI V t3 2 x1).bind fun t4 =>
    if t4 = 0 then (
    fR_finish_35 V n a0 x1 (some a0) (0 : Int32)) else (
    fR_finish_30 V n a0 x1 (some a0))))
set_option maxHeartbeats 4000000 in
set_option maxRecDepth 100000 in
theorem bR_finish {x : zX} {w : zR} (C : zC x prog_9_method_11_code "BarrierMarksModel" "finish" 2 1 21 (some .int)) (M : zM x (zc w) (zs w)) : ∀ (V : zV) (n : Nat) (a0 : Nat) (x1 : Int32), fR_finish V n a0 x1 = some w → zZ x 2 0 0 w V n 0 [(0, va_rf (some a0)), (1, .int x1)] [] := by
  intro V n a0 x1 h
  unfold fR_finish at h
  refine z_aload_n C 0 dR_finish_0 rfl rfl ?_
  refine z_aload_n C 0 dR_finish_1 rfl rfl ?_
  refine z_iload_n C 1 dR_finish_2 rfl rfl ?_
  refine z_vPI (ci := 6) C M zRmP [.int x1] cv_R_124 rfl (by decide) (by decide) rfl rfl (by first | decide | (simp [zrfcat, zicat, zlcat]; done)) dR_finish_3 (fun b => fR_isChannel V n b x1) h (fun b w1 e1 l D dA hl => mR_isChannel hl e1) (fun t1 V n h => ?_)
  refine z_if_ne C 13 dR_finish_6 (by decide) h (fun h => ?_) (fun h => ?_)
  · refine z_aload_n C 0 dR_finish_13 rfl rfl ?_
    refine z_iload_n C 1 dR_finish_14 rfl rfl ?_
    refine z_vPI (ci := 6) C M zRmP [.int x1] cv_R_127 rfl (by decide) (by decide) rfl rfl (by first | decide | (simp [zrfcat, zicat, zlcat]; done)) dR_finish_15 (fun b => fR_isSource V n b x1) h (fun b w1 e1 l D dA hl => mR_isSource hl e1) (fun t2 V n h => ?_)
    refine z_if_eq C 30 dR_finish_18 (by decide) h (fun h => ?_) (fun h => ?_)
    · exact bR_finish_30 C M V n a0 x1 (some a0) h
    · refine z_aload_n C 0 dR_finish_21 rfl rfl ?_
      refine z_getR C fl_R_45 dR_finish_22 h (fun t3 h => ?_)
      refine z_iload_n C 1 dR_finish_25 rfl rfl ?_
      refine z_zald C rfl dR_finish_26 h (fun t4 h => ?_)
      refine z_if_eq C 34 dR_finish_27 (by decide) h (fun h => ?_) (fun h => ?_)
      · refine z_iconst (v := 0) C dR_finish_34 (by decide) ?_
        exact bR_finish_35 C M V n a0 x1 (some a0) (0 : Int32) h
      · exact bR_finish_30 C M V n a0 x1 (some a0) h
  · refine z_iconst (v := 1) C dR_finish_9 (by decide) ?_
    refine z_goto C 35 dR_finish_10 (by decide) ?_
    exact bR_finish_35 C M V n a0 x1 (some a0) (1 : Int32) h
theorem mR_finish {l : Launch} {D : va_G} {dA : Nat → ClassId} {V : zV} {n : Nat} (hl : l.stackTraces = false) {a0 : Nat} {x1 : Int32} {w : zR} (h : fR_finish V n a0 x1 = some w) : z_Met l ⟨"BarrierMarksModel", "finish", "(I)I"⟩ prog_9_method_11_code 2 (some .int) 1 21 (zc w) (zs w) [.ref a0, .int x1] D dA V n w := by exact z_ofZ hl (by decide) (Nat.le_of_ble_eq_true rfl) (fun x C M => bR_finish C M V n a0 x1 h)
/-! BarrierMarksModel.begun()I -/
def fR_begun_27 (K4 : zV → Nat → Nat → Int32 → Int32 → Option zR) (V : zV) (n : Nat) (a0 : Nat) (x2 : Int32) (s0 : Int32) (s1 : Int32) : Option zR :=
    K4 V n a0 (s0 + s1) (x2 + 1)
set_option maxHeartbeats 4000000 in
set_option maxRecDepth 100000 in
theorem bR_begun_27 {x : zX} {w : zR} {K4 : zV → Nat → Nat → Int32 → Int32 → Option zR} (C : zC x prog_9_method_12_code "BarrierMarksModel" "begun" 3 0 0 (some .int)) (M : zM x (zc w) (zs w)) (hK4 : ∀ (V : zV) (n : Nat) (a0 : Nat) (x1 : Int32) (x2 : Int32), K4 V n a0 x1 x2 = some w → zZ x 3 0 0 w V n 4 [(0, va_rf (some a0)), (1, .int x1), (2, .int x2)] []) : ∀ (V : zV) (n : Nat) (a0 : Nat) (x2 : Int32) (s0 : Int32) (s1 : Int32), fR_begun_27 K4 V n a0 x2 s0 s1 = some w → zZ x 3 0 0 w V n 27 [(0, va_rf (some a0)), (2, .int x2)] [.int s1, .int s0] := by
  intro V n a0 x2 s0 s1 h
  unfold fR_begun_27 at h
  refine z_iadd C dR_begun_27 ?_
  refine z_istore_n (lv' := [(1, .int (s0 + s1)), (0, va_rf (some a0)), (2, .int x2)]) (i := 1) C dR_begun_28 rfl (by decide) rfl ?_
  refine z_iinc (lv' := [(2, .int (x2 + 1)), (1, .int (s0 + s1)), (0, va_rf (some a0))]) C 2 dR_begun_29 rfl rfl (by decide) rfl ?_
  refine z_goto C 4 dR_begun_32 (by decide) ?_
  refine z_sub [2, 1, 0] rfl ?_
  exact hK4 V n a0 (s0 + s1) (x2 + 1) h
def fR_begun_4 : Nat → zV → Nat → Nat → Int32 → Int32 → Option zR
  | 0 => fun _ _ _ _ _ => none
  | f9 + 1 => fun V n a0 x1 x2 =>
    (zgI V (some a0) [6] 19).bind fun t1 =>
    if t1 ≤ x2 then (
    zrI x1 V n) else (
    (zgR V (some a0) [6] 20).bind fun t2 =>
    (zaI V t2 0 x2).bind fun t3 =>
    if t3 = 0 then (
    fR_begun_27 (fR_begun_4 f9) V n a0 x2 x1 (1 : Int32)) else (
    fR_begun_27 (fR_begun_4 f9) V n a0 x2 x1 (0 : Int32)))
set_option maxHeartbeats 4000000 in
set_option maxRecDepth 100000 in
theorem bR_begun_4 {x : zX} {w : zR} (C : zC x prog_9_method_12_code "BarrierMarksModel" "begun" 3 0 0 (some .int)) (M : zM x (zc w) (zs w)) : ∀ (f9 : Nat) (V : zV) (n : Nat) (a0 : Nat) (x1 : Int32) (x2 : Int32), fR_begun_4 f9 V n a0 x1 x2 = some w → zZ x 3 0 0 w V n 4 [(0, va_rf (some a0)), (1, .int x1), (2, .int x2)] [] := by
  intro f9
  induction f9 with
  | zero =>
    intro V n a0 x1 x2 h
    cases h
  | succ f9 ih =>
    intro V n a0 x1 x2 h
    unfold fR_begun_4 at h
    refine z_iload_n C 2 dR_begun_4 rfl rfl ?_
    refine z_aload_n C 0 dR_begun_5 rfl rfl ?_
    refine z_getI C fl_R_106 dR_begun_6 h (fun t1 h => ?_)
    refine z_icmp_ge C 35 dR_begun_9 (by decide) h (fun h => ?_) (fun h => ?_)
    · refine z_iload_n C 1 dR_begun_35 rfl rfl ?_
      exact z_iret C M (Nat.zero_le _) (Nat.zero_le _) dR_begun_36 h
    · refine z_iload_n C 1 dR_begun_12 rfl rfl ?_
      refine z_aload_n C 0 dR_begun_13 rfl rfl ?_
      refine z_getR C fl_R_57 dR_begun_14 h (fun t2 h => ?_)
      refine z_iload_n C 2 dR_begun_17 rfl rfl ?_
      refine z_iald C rfl dR_begun_18 h (fun t3 h => ?_)
      refine z_if_ne C 26 dR_begun_19 (by decide) h (fun h => ?_) (fun h => ?_)
      · refine z_iconst (v := 0) C dR_begun_26 (by decide) ?_
        refine z_sub [0, 2] rfl ?_
        exact bR_begun_27 C M ih V n a0 x2 x1 (0 : Int32) h
      · refine z_iconst (v := 1) C dR_begun_22 (by decide) ?_
        refine z_goto C 27 dR_begun_23 (by decide) ?_
        refine z_sub [0, 2] rfl ?_
        exact bR_begun_27 C M ih V n a0 x2 x1 (1 : Int32) h
def fR_begun (V : zV) (n : Nat) (a0 : Nat) : Option zR :=
    fR_begun_4 zF V n a0 (0 : Int32) (0 : Int32)
set_option maxHeartbeats 4000000 in
set_option maxRecDepth 100000 in
theorem bR_begun {x : zX} {w : zR} (C : zC x prog_9_method_12_code "BarrierMarksModel" "begun" 3 0 0 (some .int)) (M : zM x (zc w) (zs w)) : ∀ (V : zV) (n : Nat) (a0 : Nat), fR_begun V n a0 = some w → zZ x 3 0 0 w V n 0 [(0, va_rf (some a0))] [] := by
  intro V n a0 h
  unfold fR_begun at h
  refine z_iconst (v := 0) C dR_begun_0 (by decide) ?_
  refine z_istore_n (lv' := [(1, .int (0 : Int32)), (0, va_rf (some a0))]) (i := 1) C dR_begun_1 rfl (by decide) rfl ?_
  refine z_iconst (v := 0) C dR_begun_2 (by decide) ?_
  refine z_istore_n (lv' := [(2, .int (0 : Int32)), (1, .int (0 : Int32)), (0, va_rf (some a0))]) (i := 2) C dR_begun_3 rfl (by decide) rfl ?_
  refine z_sub [2, 1, 0] rfl ?_
  exact bR_begun_4 C M zF V n a0 (0 : Int32) (0 : Int32) h
theorem mR_begun {l : Launch} {D : va_G} {dA : Nat → ClassId} {V : zV} {n : Nat} (hl : l.stackTraces = false) {a0 : Nat} {w : zR} (h : fR_begun V n a0 = some w) : z_Met l ⟨"BarrierMarksModel", "begun", "()I"⟩ prog_9_method_12_code 3 (some .int) 0 0 (zc w) (zs w) [.ref a0] D dA V n w := by exact z_ofZ hl (by decide) (Nat.le_of_ble_eq_true rfl) (fun x C M => bR_begun C M V n a0 h)
/-! BarrierMarksModel.sent(II)V -/
def fR_sent (V : zV) (n : Nat) (a0 : Nat) (x1 : Int32) (x2 : Int32) : Option zR :=
    (zgR V (some a0) [6] 30).bind fun t1 =>
    (zgI V (some a0) [6] 29).bind fun t2 =>
    (zsI V t1 0 t2 x1).bind fun V =>
    (zgR V (some a0) [6] 31).bind fun t3 =>
    (zgI V (some a0) [6] 29).bind fun t4 =>
    (zsI V t3 0 t4 x2).bind fun V =>
    (zgI V (some a0) [6] 29).bind fun t5 =>
    (zpI V (some a0) [6] 29 ((t5 + (1 : Int32)))).bind fun V =>
    zrV V n
set_option maxHeartbeats 4000000 in
set_option maxRecDepth 100000 in
theorem bR_sent {x : zX} {w : zR} (C : zC x prog_9_method_14_code "BarrierMarksModel" "sent" 3 0 0 none) (M : zM x (zc w) (zs w)) : ∀ (V : zV) (n : Nat) (a0 : Nat) (x1 : Int32) (x2 : Int32), fR_sent V n a0 x1 x2 = some w → zZ x 3 0 0 w V n 0 [(0, va_rf (some a0)), (1, .int x1), (2, .int x2)] [] := by
  intro V n a0 x1 x2 h
  unfold fR_sent at h
  refine z_aload_n C 0 dR_sent_0 rfl rfl ?_
  refine z_getR C fl_R_84 dR_sent_1 h (fun t1 h => ?_)
  refine z_aload_n C 0 dR_sent_4 rfl rfl ?_
  refine z_getI C fl_R_138 dR_sent_5 h (fun t2 h => ?_)
  refine z_iload_n C 1 dR_sent_8 rfl rfl ?_
  refine z_iast C rfl dR_sent_9 h (fun V h => ?_)
  refine z_aload_n C 0 dR_sent_10 rfl rfl ?_
  refine z_getR C fl_R_87 dR_sent_11 h (fun t3 h => ?_)
  refine z_aload_n C 0 dR_sent_14 rfl rfl ?_
  refine z_getI C fl_R_138 dR_sent_15 h (fun t4 h => ?_)
  refine z_iload_n C 2 dR_sent_18 rfl rfl ?_
  refine z_iast C rfl dR_sent_19 h (fun V h => ?_)
  refine z_aload_n C 0 dR_sent_20 rfl rfl ?_
  refine z_dup C dR_sent_21 (zrfcat _) ?_
  refine z_getI C fl_R_138 dR_sent_22 h (fun t5 h => ?_)
  refine z_iconst (v := 1) C dR_sent_25 (by decide) ?_
  refine z_iadd C dR_sent_26 ?_
  refine z_putI C pf_R_138 (fun h => absurd h (by decide)) dR_sent_27 h (fun V h => ?_)
  exact z_vret C M (Nat.zero_le _) (Nat.zero_le _) dR_sent_30 h
theorem mR_sent {l : Launch} {D : va_G} {dA : Nat → ClassId} {V : zV} {n : Nat} (hl : l.stackTraces = false) {a0 : Nat} {x1 : Int32} {x2 : Int32} {w : zR} (h : fR_sent V n a0 x1 x2 = some w) : z_Met l ⟨"BarrierMarksModel", "sent", "(II)V"⟩ prog_9_method_14_code 3 none 0 0 (zc w) (zs w) [.ref a0, .int x1, .int x2] D dA V n w := by exact z_ofZ hl (by decide) (Nat.le_of_ble_eq_true rfl) (fun x C M => bR_sent C M V n a0 x1 x2 h)
/-! BarrierMarksModel.keep(II)V -/
def fR_keep (V : zV) (n : Nat) (a0 : Nat) (x1 : Int32) (x2 : Int32) : Option zR :=
    (zgR V (some a0) [6] 23).bind fun t1 =>
    (zsZ V t1 2 ((((8 : Int32) * x1) + x2)) (1 : Int32)).bind fun V =>
    (zgR V (some a0) [6] 24).bind fun t2 =>
    (zgR V (some a0) [6] 5).bind fun t3 =>
    (zaI V t3 2 x2).bind fun t4 =>
    (zsZ V t2 2 ((((8 : Int32) * x1) + x2)) t4).bind fun V =>
    (zgR V (some a0) [6] 25).bind fun t5 =>
    (zgR V (some a0) [6] 3).bind fun t6 =>
    (zaL V t6 1 x2).bind fun t7 =>
    (zsL V t5 1 ((((8 : Int32) * x1) + x2)) t7).bind fun V =>
    (zgR V (some a0) [6] 26).bind fun t8 =>
    (zgR V (some a0) [6] 4).bind fun t9 =>
    (zaI V t9 0 x2).bind fun t10 =>
    (zsI V t8 0 ((((8 : Int32) * x1) + x2)) t10).bind fun V =>
    (z_obj V (some a0) [6]).bind fun o => zcV (fR_sent V n o.1 x1 x2) fun V n =>
    zrV V n
set_option maxHeartbeats 4000000 in
set_option maxRecDepth 100000 in
theorem bR_keep {x : zX} {w : zR} (C : zC x prog_9_method_15_code "BarrierMarksModel" "keep" 3 1 22 none) (M : zM x (zc w) (zs w)) : ∀ (V : zV) (n : Nat) (a0 : Nat) (x1 : Int32) (x2 : Int32), fR_keep V n a0 x1 x2 = some w → zZ x 3 0 0 w V n 0 [(0, va_rf (some a0)), (1, .int x1), (2, .int x2)] [] := by
  intro V n a0 x1 x2 h
  unfold fR_keep at h
  refine z_aload_n C 0 dR_keep_0 rfl rfl ?_
  refine z_getR C fl_R_66 dR_keep_1 h (fun t1 h => ?_)
  refine z_bipush (v := 8) C dR_keep_4 (by decide) ?_
  refine z_iload_n C 1 dR_keep_6 rfl rfl ?_
  refine z_imul C dR_keep_7 ?_
  refine z_iload_n C 2 dR_keep_8 rfl rfl ?_
  refine z_iadd C dR_keep_9 ?_
  refine z_iconst (v := 1) C dR_keep_10 (by decide) ?_
  refine z_zast C rfl dR_keep_11 h (fun V h => ?_)
  refine z_aload_n C 0 dR_keep_12 rfl rfl ?_
  refine z_getR C fl_R_69 dR_keep_13 h (fun t2 h => ?_)
  refine z_bipush (v := 8) C dR_keep_16 (by decide) ?_
  refine z_iload_n C 1 dR_keep_18 rfl rfl ?_
  refine z_imul C dR_keep_19 ?_
  refine z_iload_n C 2 dR_keep_20 rfl rfl ?_
  refine z_iadd C dR_keep_21 ?_
  refine z_aload_n C 0 dR_keep_22 rfl rfl ?_
  refine z_getR C fl_R_17 dR_keep_23 h (fun t3 h => ?_)
  refine z_iload_n C 2 dR_keep_26 rfl rfl ?_
  refine z_zald C rfl dR_keep_27 h (fun t4 h => ?_)
  refine z_zast C rfl dR_keep_28 h (fun V h => ?_)
  refine z_aload_n C 0 dR_keep_29 rfl rfl ?_
  refine z_getR C fl_R_72 dR_keep_30 h (fun t5 h => ?_)
  refine z_bipush (v := 8) C dR_keep_33 (by decide) ?_
  refine z_iload_n C 1 dR_keep_35 rfl rfl ?_
  refine z_imul C dR_keep_36 ?_
  refine z_iload_n C 2 dR_keep_37 rfl rfl ?_
  refine z_iadd C dR_keep_38 ?_
  refine z_aload_n C 0 dR_keep_39 rfl rfl ?_
  refine z_getR C fl_R_7 dR_keep_40 h (fun t6 h => ?_)
  refine z_iload_n C 2 dR_keep_43 rfl rfl ?_
  refine z_lald C rfl dR_keep_44 h (fun t7 h => ?_)
  refine z_last C rfl dR_keep_45 h (fun V h => ?_)
  refine z_aload_n C 0 dR_keep_46 rfl rfl ?_
  refine z_getR C fl_R_75 dR_keep_47 h (fun t8 h => ?_)
  refine z_bipush (v := 8) C dR_keep_50 (by decide) ?_
  refine z_iload_n C 1 dR_keep_52 rfl rfl ?_
  refine z_imul C dR_keep_53 ?_
  refine z_iload_n C 2 dR_keep_54 rfl rfl ?_
  refine z_iadd C dR_keep_55 ?_
  refine z_aload_n C 0 dR_keep_56 rfl rfl ?_
  refine z_getR C fl_R_13 dR_keep_57 h (fun t9 h => ?_)
  refine z_iload_n C 2 dR_keep_60 rfl rfl ?_
  refine z_iald C rfl dR_keep_61 h (fun t10 h => ?_)
  refine z_iast C rfl dR_keep_62 h (fun V h => ?_)
  refine z_aload_n C 0 dR_keep_63 rfl rfl ?_
  refine z_iload_n C 1 dR_keep_64 rfl rfl ?_
  refine z_iload_n C 2 dR_keep_65 rfl rfl ?_
  refine z_vPV (ci := 6) C M zRmP [.int x1, .int x2] cv_R_141 rfl (by decide) (by decide) rfl rfl (Nat.zero_le _) dR_keep_66 (fun b => fR_sent V n b x1 x2) h (fun b w1 e1 l D dA hl => mR_sent hl e1) (fun V n h => ?_)
  exact z_vret C M (Nat.zero_le _) (Nat.zero_le _) dR_keep_69 h
theorem mR_keep {l : Launch} {D : va_G} {dA : Nat → ClassId} {V : zV} {n : Nat} (hl : l.stackTraces = false) {a0 : Nat} {x1 : Int32} {x2 : Int32} {w : zR} (h : fR_keep V n a0 x1 x2 = some w) : z_Met l ⟨"BarrierMarksModel", "keep", "(II)V"⟩ prog_9_method_15_code 3 none 1 22 (zc w) (zs w) [.ref a0, .int x1, .int x2] D dA V n w := by exact z_ofZ hl (by decide) (Nat.le_of_ble_eq_true rfl) (fun x C M => bR_keep C M V n a0 x1 x2 h)
/-! BarrierMarksModel.mark()I -/
def fR_mark_121 (K90 : zV → Nat → Nat → Int32 → Int32 → Option zR) (V : zV) (n : Nat) (a0 : Nat) (x1 : Int32) (x2 : Int32) : Option zR :=
    K90 V n a0 x1 (x2 + 1)
set_option maxHeartbeats 4000000 in
set_option maxRecDepth 100000 in
theorem bR_mark_121 {x : zX} {w : zR} {K90 : zV → Nat → Nat → Int32 → Int32 → Option zR} (C : zC x prog_9_method_13_code "BarrierMarksModel" "mark" 3 2 44 (some .int)) (M : zM x (zc w) (zs w)) (hK90 : ∀ (V : zV) (n : Nat) (a0 : Nat) (x1 : Int32) (x2 : Int32), K90 V n a0 x1 x2 = some w → zZ x 3 0 0 w V n 90 [(0, va_rf (some a0)), (1, .int x1), (2, .int x2)] []) : ∀ (V : zV) (n : Nat) (a0 : Nat) (x1 : Int32) (x2 : Int32), fR_mark_121 K90 V n a0 x1 x2 = some w → zZ x 3 0 0 w V n 121 [(0, va_rf (some a0)), (1, .int x1), (2, .int x2)] [] := by
  intro V n a0 x1 x2 h
  unfold fR_mark_121 at h
  refine z_iinc (lv' := [(2, .int (x2 + 1)), (0, va_rf (some a0)), (1, .int x1)]) C 2 dR_mark_121 rfl rfl (by decide) rfl ?_
  refine z_goto C 90 dR_mark_124 (by decide) ?_
  refine z_sub [1, 2, 0] rfl ?_
  exact hK90 V n a0 x1 (x2 + 1) h
def fR_mark_115 (K90 : zV → Nat → Nat → Int32 → Int32 → Option zR) (V : zV) (n : Nat) (a0 : Nat) (x1 : Int32) (x2 : Int32) : Option zR :=
    (z_obj V (some a0) [6]).bind fun o => zcV (fR_keep V n o.1 x1 x2) fun V n =>
    fR_mark_121 K90 V n a0 x1 x2
set_option maxHeartbeats 4000000 in
set_option maxRecDepth 100000 in
theorem bR_mark_115 {x : zX} {w : zR} {K90 : zV → Nat → Nat → Int32 → Int32 → Option zR} (C : zC x prog_9_method_13_code "BarrierMarksModel" "mark" 3 2 44 (some .int)) (M : zM x (zc w) (zs w)) (hK90 : ∀ (V : zV) (n : Nat) (a0 : Nat) (x1 : Int32) (x2 : Int32), K90 V n a0 x1 x2 = some w → zZ x 3 0 0 w V n 90 [(0, va_rf (some a0)), (1, .int x1), (2, .int x2)] []) : ∀ (V : zV) (n : Nat) (a0 : Nat) (x1 : Int32) (x2 : Int32), fR_mark_115 K90 V n a0 x1 x2 = some w → zZ x 3 0 0 w V n 115 [(0, va_rf (some a0)), (1, .int x1), (2, .int x2)] [] := by
  intro V n a0 x1 x2 h
  unfold fR_mark_115 at h
  refine z_aload_n C 0 dR_mark_115 rfl rfl ?_
  refine z_iload_n C 1 dR_mark_116 rfl rfl ?_
  refine z_iload_n C 2 dR_mark_117 rfl rfl ?_
  refine z_vPV (ci := 6) C M zRmP [.int x1, .int x2] cv_R_134 rfl (by decide) (by decide) rfl rfl (Nat.zero_le _) dR_mark_118 (fun b => fR_keep V n b x1 x2) h (fun b w1 e1 l D dA hl => mR_keep hl e1) (fun V n h => ?_)
  exact bR_mark_121 C M hK90 V n a0 x1 x2 h
def fR_mark_90 : Nat → zV → Nat → Nat → Int32 → Int32 → Option zR
  | 0 => fun _ _ _ _ _ => none
  | f9 + 1 => fun V n a0 x1 x2 =>
    (zgI V (some a0) [6] 0).bind fun t1 =>
    if t1 ≤ x2 then (
    zrI x1 V n) else (
    (zgR V (some a0) [6] 5).bind fun t2 =>
    (zaI V t2 2 x2).bind fun t3 =>
    if t3 = 0 then (
    (z_obj V (some a0) [6]).bind fun o => zcI (fR_hasInto V n o.1 x2) fun t4 V n =>
    if t4 = 0 then (
    fR_mark_115 (fR_mark_90 f9) V n a0 x1 x2) else (
    fR_mark_121 (fR_mark_90 f9) V n a0 x1 x2)) else (
    fR_mark_115 (fR_mark_90 f9) V n a0 x1 x2))
set_option maxHeartbeats 4000000 in
set_option maxRecDepth 100000 in
theorem bR_mark_90 {x : zX} {w : zR} (C : zC x prog_9_method_13_code "BarrierMarksModel" "mark" 3 2 44 (some .int)) (M : zM x (zc w) (zs w)) : ∀ (f9 : Nat) (V : zV) (n : Nat) (a0 : Nat) (x1 : Int32) (x2 : Int32), fR_mark_90 f9 V n a0 x1 x2 = some w → zZ x 3 0 0 w V n 90 [(0, va_rf (some a0)), (1, .int x1), (2, .int x2)] [] := by
  intro f9
  induction f9 with
  | zero =>
    intro V n a0 x1 x2 h
    cases h
  | succ f9 ih =>
    intro V n a0 x1 x2 h
    unfold fR_mark_90 at h
    refine z_iload_n C 2 dR_mark_90 rfl rfl ?_
    refine z_aload_n C 0 dR_mark_91 rfl rfl ?_
    refine z_getI C fl_R_96 dR_mark_92 h (fun t1 h => ?_)
    refine z_icmp_ge C 127 dR_mark_95 (by decide) h (fun h => ?_) (fun h => ?_)
    · refine z_iload_n C 1 dR_mark_127 rfl rfl ?_
      exact z_iret C M (Nat.zero_le _) (Nat.zero_le _) dR_mark_128 h
    · refine z_aload_n C 0 dR_mark_98 rfl rfl ?_
      refine z_getR C fl_R_17 dR_mark_99 h (fun t2 h => ?_)
      refine z_iload_n C 2 dR_mark_102 rfl rfl ?_
      refine z_zald C rfl dR_mark_103 h (fun t3 h => ?_)
      refine z_if_ne C 115 dR_mark_104 (by decide) h (fun h => ?_) (fun h => ?_)
      · exact bR_mark_115 C M ih V n a0 x1 x2 h
      · refine z_aload_n C 0 dR_mark_107 rfl rfl ?_
        refine z_iload_n C 2 dR_mark_108 rfl rfl ?_
        refine z_vPI (ci := 6) C M zRmP [.int x2] cv_R_121 rfl (by decide) (by decide) rfl rfl (Nat.zero_le _) dR_mark_109 (fun b => fR_hasInto V n b x2) h (fun b w1 e1 l D dA hl => mR_hasInto hl e1) (fun t4 V n h => ?_)
        refine z_if_ne C 121 dR_mark_112 (by decide) h (fun h => ?_) (fun h => ?_)
        · exact bR_mark_121 C M ih V n a0 x1 x2 h
        · exact bR_mark_115 C M ih V n a0 x1 x2 h
def fR_mark_57 : Nat → zV → Nat → Nat → Int32 → Int32 → Option zR
  | 0 => fun _ _ _ _ _ => none
  | f9 + 1 => fun V n a0 x1 x2 =>
    (zgI V (some a0) [6] 7).bind fun t1 =>
    if t1 ≤ x2 then (
    fR_mark_90 zF V n a0 x1 (0 : Int32)) else (
    (zgR V (some a0) [6] 21).bind fun t2 =>
    (zgR V (some a0) [6] 14).bind fun t3 =>
    (zaI V t3 0 x2).bind fun t4 =>
    (zsI V t2 0 ((((16 : Int32) * x1) + x2)) t4).bind fun V =>
    (fR_mark_57 f9) V n a0 x1 (x2 + 1))
set_option maxHeartbeats 4000000 in
set_option maxRecDepth 100000 in
theorem bR_mark_57 {x : zX} {w : zR} (C : zC x prog_9_method_13_code "BarrierMarksModel" "mark" 3 2 44 (some .int)) (M : zM x (zc w) (zs w)) : ∀ (f9 : Nat) (V : zV) (n : Nat) (a0 : Nat) (x1 : Int32) (x2 : Int32), fR_mark_57 f9 V n a0 x1 x2 = some w → zZ x 3 0 0 w V n 57 [(0, va_rf (some a0)), (1, .int x1), (2, .int x2)] [] := by
  intro f9
  induction f9 with
  | zero =>
    intro V n a0 x1 x2 h
    cases h
  | succ f9 ih =>
    intro V n a0 x1 x2 h
    unfold fR_mark_57 at h
    refine z_iload_n C 2 dR_mark_57 rfl rfl ?_
    refine z_aload_n C 0 dR_mark_58 rfl rfl ?_
    refine z_getI C fl_R_103 dR_mark_59 h (fun t1 h => ?_)
    refine z_icmp_ge C 88 dR_mark_62 (by decide) h (fun h => ?_) (fun h => ?_)
    · refine z_iconst (v := 0) C dR_mark_88 (by decide) ?_
      refine z_istore_n (lv' := [(2, .int (0 : Int32)), (0, va_rf (some a0)), (1, .int x1)]) (i := 2) C dR_mark_89 rfl (by decide) rfl ?_
      refine z_sub [1, 2, 0] rfl ?_
      exact bR_mark_90 C M zF V n a0 x1 (0 : Int32) h
    · refine z_aload_n C 0 dR_mark_65 rfl rfl ?_
      refine z_getR C fl_R_60 dR_mark_66 h (fun t2 h => ?_)
      refine z_bipush (v := 16) C dR_mark_69 (by decide) ?_
      refine z_iload_n C 1 dR_mark_71 rfl rfl ?_
      refine z_imul C dR_mark_72 ?_
      refine z_iload_n C 2 dR_mark_73 rfl rfl ?_
      refine z_iadd C dR_mark_74 ?_
      refine z_aload_n C 0 dR_mark_75 rfl rfl ?_
      refine z_getR C fl_R_42 dR_mark_76 h (fun t3 h => ?_)
      refine z_iload_n C 2 dR_mark_79 rfl rfl ?_
      refine z_iald C rfl dR_mark_80 h (fun t4 h => ?_)
      refine z_iast C rfl dR_mark_81 h (fun V h => ?_)
      refine z_iinc (lv' := [(2, .int (x2 + 1)), (0, va_rf (some a0)), (1, .int x1)]) C 2 dR_mark_82 rfl rfl (by decide) rfl ?_
      refine z_goto C 57 dR_mark_85 (by decide) ?_
      refine z_sub [1, 2, 0] rfl ?_
      exact ih V n a0 x1 (x2 + 1) h
def fR_mark_23 (V : zV) (n : Nat) (a0 : Nat) (s0 : Option Nat) (s1 : Int32) : Option zR :=
    (zpI V s0 [6] 1 s1).bind fun V =>
    (zgI V (some a0) [6] 1).bind fun t1 =>
    if t1 ≤ 0 then (
    (zpZ V (some a0) [6] 2 (1 : Int32)).bind fun V =>
    (zgI V (some a0) [6] 19).bind fun t2 =>
    (zgI V (some a0) [6] 19).bind fun t3 =>
    (zpI V (some a0) [6] 19 ((t3 + (1 : Int32)))).bind fun V =>
    fR_mark_57 zF V n a0 t2 (0 : Int32)) else (
    zrI (0 : Int32) V n)
set_option maxHeartbeats 4000000 in
set_option maxRecDepth 100000 in
theorem bR_mark_23 {x : zX} {w : zR} (C : zC x prog_9_method_13_code "BarrierMarksModel" "mark" 3 2 44 (some .int)) (M : zM x (zc w) (zs w)) : ∀ (V : zV) (n : Nat) (a0 : Nat) (s0 : Option Nat) (s1 : Int32), fR_mark_23 V n a0 s0 s1 = some w → zZ x 3 0 0 w V n 23 [(0, va_rf (some a0))] [.int s1, va_rf s0] := by
  intro V n a0 s0 s1 h
  unfold fR_mark_23 at h
  refine z_putI C pf_R_100 (fun h => absurd h (by decide)) dR_mark_23 h (fun V h => ?_)
  refine z_aload_n C 0 dR_mark_26 rfl rfl ?_
  refine z_getI C fl_R_100 dR_mark_27 h (fun t1 h => ?_)
  refine z_if_le C 35 dR_mark_30 (by decide) h (fun h => ?_) (fun h => ?_)
  · refine z_aload_n C 0 dR_mark_35 rfl rfl ?_
    refine z_iconst (v := 1) C dR_mark_36 (by decide) ?_
    refine z_putZ C pf_R_113 (fun h => absurd h (by decide)) dR_mark_37 h (fun V h => ?_)
    refine z_aload_n C 0 dR_mark_40 rfl rfl ?_
    refine z_getI C fl_R_106 dR_mark_41 h (fun t2 h => ?_)
    refine z_istore_n (lv' := [(1, .int t2), (0, va_rf (some a0))]) (i := 1) C dR_mark_44 rfl (by decide) rfl ?_
    refine z_aload_n C 1 dR_mark_45 rfl rfl ?_
    refine z_dup C dR_mark_46 (zrfcat _) ?_
    refine z_getI C fl_R_106 dR_mark_47 h (fun t3 h => ?_)
    refine z_iconst (v := 1) C dR_mark_50 (by decide) ?_
    refine z_iadd C dR_mark_51 ?_
    refine z_putI C pf_R_106 (fun h => absurd h (by decide)) dR_mark_52 h (fun V h => ?_)
    refine z_iconst (v := 0) C dR_mark_55 (by decide) ?_
    refine z_istore_n (lv' := [(2, .int (0 : Int32)), (1, .int t2), (0, va_rf (some a0))]) (i := 2) C dR_mark_56 rfl (by decide) rfl ?_
    refine z_sub [2, 1, 0] rfl ?_
    exact bR_mark_57 C M zF V n a0 t2 (0 : Int32) h
  · refine z_iconst (v := 0) C dR_mark_33 (by decide) ?_
    exact z_iret C M (Nat.zero_le _) (Nat.zero_le _) dR_mark_34 h
def fR_mark_18 (V : zV) (n : Nat) (a0 : Nat) (s0 : Option Nat) : Option zR :=
    fR_mark_23 V n a0 s0 (1 : Int32)
set_option maxHeartbeats 4000000 in
set_option maxRecDepth 100000 in
theorem bR_mark_18 {x : zX} {w : zR} (C : zC x prog_9_method_13_code "BarrierMarksModel" "mark" 3 2 44 (some .int)) (M : zM x (zc w) (zs w)) : ∀ (V : zV) (n : Nat) (a0 : Nat) (s0 : Option Nat), fR_mark_18 V n a0 s0 = some w → zZ x 3 0 0 w V n 18 [(0, va_rf (some a0))] [va_rf s0] := by
  intro V n a0 s0 h
  unfold fR_mark_18 at h
  refine z_iconst (v := 1) C dR_mark_18 (by decide) ?_
  refine z_goto C 23 dR_mark_19 (by decide) ?_
  exact bR_mark_23 C M V n a0 s0 (1 : Int32) h
def fR_mark (V : zV) (n : Nat) (a0 : Nat) : Option zR :=
    (z_obj V (some a0) [6]).bind fun o => zcI (fR_begun V n o.1 ) fun t1 V n =>
    if t1 = (3 : Int32) then (
    fR_mark_18 V n a0 (some a0)) else (
    (zgI V (some a0) [6] 19).bind fun t2 =>
    if t2 = (40 : Int32) then (
    fR_mark_18 V n a0 (some a0)) else (
    fR_mark_23 V n a0 (some a0) (0 : Int32)))
set_option maxHeartbeats 4000000 in
set_option maxRecDepth 100000 in
theorem bR_mark {x : zX} {w : zR} (C : zC x prog_9_method_13_code "BarrierMarksModel" "mark" 3 2 44 (some .int)) (M : zM x (zc w) (zs w)) : ∀ (V : zV) (n : Nat) (a0 : Nat), fR_mark V n a0 = some w → zZ x 3 0 0 w V n 0 [(0, va_rf (some a0))] [] := by
  intro V n a0 h
  unfold fR_mark at h
  refine z_aload_n C 0 dR_mark_0 rfl rfl ?_
  refine z_aload_n C 0 dR_mark_1 rfl rfl ?_
  refine z_vPI (ci := 6) C M zRmP [] cv_R_130 rfl (by decide) (by decide) rfl rfl (by first | decide | (simp [zrfcat, zicat, zlcat]; done)) dR_mark_2 (fun b => fR_begun V n b ) h (fun b w1 e1 l D dA hl => mR_begun hl e1) (fun t1 V n h => ?_)
  refine z_iconst (v := 3) C dR_mark_5 (by decide) ?_
  refine z_icmp_eq C 18 dR_mark_6 (by decide) h (fun h => ?_) (fun h => ?_)
  · exact bR_mark_18 C M V n a0 (some a0) h
  · refine z_aload_n C 0 dR_mark_9 rfl rfl ?_
    refine z_getI C fl_R_106 dR_mark_10 h (fun t2 h => ?_)
    refine z_bipush (v := 40) C dR_mark_13 (by decide) ?_
    refine z_icmp_ne C 22 dR_mark_15 (by decide) h (fun h => ?_) (fun h => ?_)
    · refine z_iconst (v := 0) C dR_mark_22 (by decide) ?_
      exact bR_mark_23 C M V n a0 (some a0) (0 : Int32) h
    · exact bR_mark_18 C M V n a0 (some a0) h
theorem mR_mark {l : Launch} {D : va_G} {dA : Nat → ClassId} {V : zV} {n : Nat} (hl : l.stackTraces = false) {a0 : Nat} {w : zR} (h : fR_mark V n a0 = some w) : z_Met l ⟨"BarrierMarksModel", "mark", "()I"⟩ prog_9_method_13_code 3 (some .int) 2 44 (zc w) (zs w) [.ref a0] D dA V n w := by exact z_ofZ hl (by decide) (Nat.le_of_ble_eq_true rfl) (fun x C M => bR_mark C M V n a0 h)
/-! BarrierMarksModel.count(I)I -/
def fR_count_32 (K4 : zV → Nat → Nat → Int32 → Int32 → Int32 → Option zR) (V : zV) (n : Nat) (a0 : Nat) (x1 : Int32) (x3 : Int32) (s0 : Int32) (s1 : Int32) : Option zR :=
    K4 V n a0 x1 (s0 + s1) (x3 + 1)
set_option maxHeartbeats 4000000 in
set_option maxRecDepth 100000 in
theorem bR_count_32 {x : zX} {w : zR} {K4 : zV → Nat → Nat → Int32 → Int32 → Int32 → Option zR} (C : zC x prog_9_method_27_code "BarrierMarksModel" "count" 4 0 0 (some .int)) (M : zM x (zc w) (zs w)) (hK4 : ∀ (V : zV) (n : Nat) (a0 : Nat) (x1 : Int32) (x2 : Int32) (x3 : Int32), K4 V n a0 x1 x2 x3 = some w → zZ x 4 0 0 w V n 4 [(0, va_rf (some a0)), (1, .int x1), (2, .int x2), (3, .int x3)] []) : ∀ (V : zV) (n : Nat) (a0 : Nat) (x1 : Int32) (x3 : Int32) (s0 : Int32) (s1 : Int32), fR_count_32 K4 V n a0 x1 x3 s0 s1 = some w → zZ x 4 0 0 w V n 32 [(0, va_rf (some a0)), (1, .int x1), (3, .int x3)] [.int s1, .int s0] := by
  intro V n a0 x1 x3 s0 s1 h
  unfold fR_count_32 at h
  refine z_iadd C dR_count_32 ?_
  refine z_istore_n (lv' := [(2, .int (s0 + s1)), (0, va_rf (some a0)), (1, .int x1), (3, .int x3)]) (i := 2) C dR_count_33 rfl (by decide) rfl ?_
  refine z_iinc (lv' := [(3, .int (x3 + 1)), (2, .int (s0 + s1)), (0, va_rf (some a0)), (1, .int x1)]) C 3 dR_count_34 rfl rfl (by decide) rfl ?_
  refine z_goto C 4 dR_count_37 (by decide) ?_
  refine z_sub [2, 3, 1, 0] rfl ?_
  exact hK4 V n a0 x1 (s0 + s1) (x3 + 1) h
def fR_count_4 : Nat → zV → Nat → Nat → Int32 → Int32 → Int32 → Option zR
  | 0 => fun _ _ _ _ _ _ => none
  | f9 + 1 => fun V n a0 x1 x2 x3 =>
    (zgI V (some a0) [6] 0).bind fun t1 =>
    if t1 ≤ x3 then (
    zrI x2 V n) else (
    (zgR V (some a0) [6] 28).bind fun t2 =>
    (zaI V t2 2 ((((8 : Int32) * x1) + x3))).bind fun t3 =>
    if t3 = 0 then (
    fR_count_32 (fR_count_4 f9) V n a0 x1 x3 x2 (0 : Int32)) else (
    fR_count_32 (fR_count_4 f9) V n a0 x1 x3 x2 (1 : Int32)))
set_option maxHeartbeats 4000000 in
set_option maxRecDepth 100000 in
theorem bR_count_4 {x : zX} {w : zR} (C : zC x prog_9_method_27_code "BarrierMarksModel" "count" 4 0 0 (some .int)) (M : zM x (zc w) (zs w)) : ∀ (f9 : Nat) (V : zV) (n : Nat) (a0 : Nat) (x1 : Int32) (x2 : Int32) (x3 : Int32), fR_count_4 f9 V n a0 x1 x2 x3 = some w → zZ x 4 0 0 w V n 4 [(0, va_rf (some a0)), (1, .int x1), (2, .int x2), (3, .int x3)] [] := by
  intro f9
  induction f9 with
  | zero =>
    intro V n a0 x1 x2 x3 h
    cases h
  | succ f9 ih =>
    intro V n a0 x1 x2 x3 h
    unfold fR_count_4 at h
    refine z_iload_n C 3 dR_count_4 rfl rfl ?_
    refine z_aload_n C 0 dR_count_5 rfl rfl ?_
    refine z_getI C fl_R_96 dR_count_6 h (fun t1 h => ?_)
    refine z_icmp_ge C 40 dR_count_9 (by decide) h (fun h => ?_) (fun h => ?_)
    · refine z_iload_n C 2 dR_count_40 rfl rfl ?_
      exact z_iret C M (Nat.zero_le _) (Nat.zero_le _) dR_count_41 h
    · refine z_iload_n C 2 dR_count_12 rfl rfl ?_
      refine z_aload_n C 0 dR_count_13 rfl rfl ?_
      refine z_getR C fl_R_81 dR_count_14 h (fun t2 h => ?_)
      refine z_bipush (v := 8) C dR_count_17 (by decide) ?_
      refine z_iload_n C 1 dR_count_19 rfl rfl ?_
      refine z_imul C dR_count_20 ?_
      refine z_iload_n C 3 dR_count_21 rfl rfl ?_
      refine z_iadd C dR_count_22 ?_
      refine z_zald C rfl dR_count_23 h (fun t3 h => ?_)
      refine z_if_eq C 31 dR_count_24 (by decide) h (fun h => ?_) (fun h => ?_)
      · refine z_iconst (v := 0) C dR_count_31 (by decide) ?_
        refine z_sub [0, 1, 3] rfl ?_
        exact bR_count_32 C M ih V n a0 x1 x3 x2 (0 : Int32) h
      · refine z_iconst (v := 1) C dR_count_27 (by decide) ?_
        refine z_goto C 32 dR_count_28 (by decide) ?_
        refine z_sub [0, 1, 3] rfl ?_
        exact bR_count_32 C M ih V n a0 x1 x3 x2 (1 : Int32) h
def fR_count (V : zV) (n : Nat) (a0 : Nat) (x1 : Int32) : Option zR :=
    fR_count_4 zF V n a0 x1 (0 : Int32) (0 : Int32)
set_option maxHeartbeats 4000000 in
set_option maxRecDepth 100000 in
theorem bR_count {x : zX} {w : zR} (C : zC x prog_9_method_27_code "BarrierMarksModel" "count" 4 0 0 (some .int)) (M : zM x (zc w) (zs w)) : ∀ (V : zV) (n : Nat) (a0 : Nat) (x1 : Int32), fR_count V n a0 x1 = some w → zZ x 4 0 0 w V n 0 [(0, va_rf (some a0)), (1, .int x1)] [] := by
  intro V n a0 x1 h
  unfold fR_count at h
  refine z_iconst (v := 0) C dR_count_0 (by decide) ?_
  refine z_istore_n (lv' := [(2, .int (0 : Int32)), (0, va_rf (some a0)), (1, .int x1)]) (i := 2) C dR_count_1 rfl (by decide) rfl ?_
  refine z_iconst (v := 0) C dR_count_2 (by decide) ?_
  refine z_istore_n (lv' := [(3, .int (0 : Int32)), (2, .int (0 : Int32)), (0, va_rf (some a0)), (1, .int x1)]) (i := 3) C dR_count_3 rfl (by decide) rfl ?_
  refine z_sub [2, 3, 1, 0] rfl ?_
  exact bR_count_4 C M zF V n a0 x1 (0 : Int32) (0 : Int32) h
theorem mR_count {l : Launch} {D : va_G} {dA : Nat → ClassId} {V : zV} {n : Nat} (hl : l.stackTraces = false) {a0 : Nat} {x1 : Int32} {w : zR} (h : fR_count V n a0 x1 = some w) : z_Met l ⟨"BarrierMarksModel", "count", "(I)I"⟩ prog_9_method_27_code 4 (some .int) 0 0 (zc w) (zs w) [.ref a0, .int x1] D dA V n w := by exact z_ofZ hl (by decide) (Nat.le_of_ble_eq_true rfl) (fun x C M => bR_count C M V n a0 x1 h)
/-! BarrierMarksModel.gone(II)V -/
def fR_gone_12 : Nat → zV → Nat → Nat → Int32 → Int32 → Option zR
  | 0 => fun _ _ _ _ _ => none
  | f9 + 1 => fun V n a0 x1 x3 =>
    (zgR V (some a0) [6] 12).bind fun t1 =>
    (zaI V t1 0 x1).bind fun t2 =>
    if t2 ≤ x3 then (
    zrV V n) else (
    (zgR V (some a0) [6] 10).bind fun t3 =>
    (zgR V (some a0) [6] 10).bind fun t4 =>
    (zaI V t4 0 (((((16 : Int32) * x1) + x3) + (1 : Int32)))).bind fun t5 =>
    (zsI V t3 0 ((((16 : Int32) * x1) + x3)) t5).bind fun V =>
    (zgR V (some a0) [6] 11).bind fun t6 =>
    (zgR V (some a0) [6] 11).bind fun t7 =>
    (zaL V t7 1 (((((16 : Int32) * x1) + x3) + (1 : Int32)))).bind fun t8 =>
    (zsL V t6 1 ((((16 : Int32) * x1) + x3)) t8).bind fun V =>
    (fR_gone_12 f9) V n a0 x1 (x3 + 1))
set_option maxHeartbeats 4000000 in
set_option maxRecDepth 100000 in
theorem bR_gone_12 {x : zX} {w : zR} (C : zC x prog_9_method_16_code "BarrierMarksModel" "gone" 4 0 0 none) (M : zM x (zc w) (zs w)) : ∀ (f9 : Nat) (V : zV) (n : Nat) (a0 : Nat) (x1 : Int32) (x3 : Int32), fR_gone_12 f9 V n a0 x1 x3 = some w → zZ x 4 0 0 w V n 12 [(0, va_rf (some a0)), (1, .int x1), (3, .int x3)] [] := by
  intro f9
  induction f9 with
  | zero =>
    intro V n a0 x1 x3 h
    cases h
  | succ f9 ih =>
    intro V n a0 x1 x3 h
    unfold fR_gone_12 at h
    refine z_iload_n C 2 dR_gone_12 rfl rfl ?_
    refine z_aload_n C 0 dR_gone_13 rfl rfl ?_
    refine z_getR C fl_R_36 dR_gone_14 h (fun t1 h => ?_)
    refine z_iload_n C 1 dR_gone_17 rfl rfl ?_
    refine z_iald C rfl dR_gone_18 h (fun t2 h => ?_)
    refine z_icmp_ge C 76 dR_gone_19 (by decide) h (fun h => ?_) (fun h => ?_)
    · exact z_vret C M (Nat.zero_le _) (Nat.zero_le _) dR_gone_76 h
    · refine z_aload_n C 0 dR_gone_22 rfl rfl ?_
      refine z_getR C fl_R_30 dR_gone_23 h (fun t3 h => ?_)
      refine z_bipush (v := 16) C dR_gone_26 (by decide) ?_
      refine z_iload_n C 1 dR_gone_28 rfl rfl ?_
      refine z_imul C dR_gone_29 ?_
      refine z_iload_n C 2 dR_gone_30 rfl rfl ?_
      refine z_iadd C dR_gone_31 ?_
      refine z_aload_n C 0 dR_gone_32 rfl rfl ?_
      refine z_getR C fl_R_30 dR_gone_33 h (fun t4 h => ?_)
      refine z_bipush (v := 16) C dR_gone_36 (by decide) ?_
      refine z_iload_n C 1 dR_gone_38 rfl rfl ?_
      refine z_imul C dR_gone_39 ?_
      refine z_iload_n C 2 dR_gone_40 rfl rfl ?_
      refine z_iadd C dR_gone_41 ?_
      refine z_iconst (v := 1) C dR_gone_42 (by decide) ?_
      refine z_iadd C dR_gone_43 ?_
      refine z_iald C rfl dR_gone_44 h (fun t5 h => ?_)
      refine z_iast C rfl dR_gone_45 h (fun V h => ?_)
      refine z_aload_n C 0 dR_gone_46 rfl rfl ?_
      refine z_getR C fl_R_33 dR_gone_47 h (fun t6 h => ?_)
      refine z_bipush (v := 16) C dR_gone_50 (by decide) ?_
      refine z_iload_n C 1 dR_gone_52 rfl rfl ?_
      refine z_imul C dR_gone_53 ?_
      refine z_iload_n C 2 dR_gone_54 rfl rfl ?_
      refine z_iadd C dR_gone_55 ?_
      refine z_aload_n C 0 dR_gone_56 rfl rfl ?_
      refine z_getR C fl_R_33 dR_gone_57 h (fun t7 h => ?_)
      refine z_bipush (v := 16) C dR_gone_60 (by decide) ?_
      refine z_iload_n C 1 dR_gone_62 rfl rfl ?_
      refine z_imul C dR_gone_63 ?_
      refine z_iload_n C 2 dR_gone_64 rfl rfl ?_
      refine z_iadd C dR_gone_65 ?_
      refine z_iconst (v := 1) C dR_gone_66 (by decide) ?_
      refine z_iadd C dR_gone_67 ?_
      refine z_lald C rfl dR_gone_68 h (fun t8 h => ?_)
      refine z_last C rfl dR_gone_69 h (fun V h => ?_)
      refine z_iinc (lv' := [(3, .int (x3 + 1)), (0, va_rf (some a0)), (1, .int x1)]) C 2 dR_gone_70 rfl rfl (by decide) rfl ?_
      refine z_goto C 12 dR_gone_73 (by decide) ?_
      refine z_sub [1, 2, 0] rfl ?_
      exact ih V n a0 x1 (x3 + 1) h
def fR_gone (V : zV) (n : Nat) (a0 : Nat) (x1 : Int32) (x2 : Int32) : Option zR :=
    (zgR V (some a0) [6] 12).bind fun t1 =>
    (zaI V t1 0 x1).bind fun t2 =>
    (zsI V t1 0 x1 ((t2 - (1 : Int32)))).bind fun V =>
    fR_gone_12 zF V n a0 x1 x2
set_option maxHeartbeats 4000000 in
set_option maxRecDepth 100000 in
theorem bR_gone {x : zX} {w : zR} (C : zC x prog_9_method_16_code "BarrierMarksModel" "gone" 4 0 0 none) (M : zM x (zc w) (zs w)) : ∀ (V : zV) (n : Nat) (a0 : Nat) (x1 : Int32) (x2 : Int32), fR_gone V n a0 x1 x2 = some w → zZ x 4 0 0 w V n 0 [(0, va_rf (some a0)), (1, .int x1), (2, .int x2)] [] := by
  intro V n a0 x1 x2 h
  unfold fR_gone at h
  refine z_aload_n C 0 dR_gone_0 rfl rfl ?_
  refine z_getR C fl_R_36 dR_gone_1 h (fun t1 h => ?_)
  refine z_iload_n C 1 dR_gone_4 rfl rfl ?_
  refine z_dup2_11 C dR_gone_5 rfl (zrfcat _) ?_
  refine z_iald C rfl dR_gone_6 h (fun t2 h => ?_)
  refine z_iconst (v := 1) C dR_gone_7 (by decide) ?_
  refine z_isub C dR_gone_8 ?_
  refine z_iast C rfl dR_gone_9 h (fun V h => ?_)
  refine z_iload_n C 2 dR_gone_10 rfl rfl ?_
  refine z_istore_n (lv' := [(3, .int x2), (0, va_rf (some a0)), (1, .int x1), (2, .int x2)]) (i := 3) C dR_gone_11 rfl (by decide) rfl ?_
  refine z_sub [1, 2, 0] rfl ?_
  exact bR_gone_12 C M zF V n a0 x1 x2 h
theorem mR_gone {l : Launch} {D : va_G} {dA : Nat → ClassId} {V : zV} {n : Nat} (hl : l.stackTraces = false) {a0 : Nat} {x1 : Int32} {x2 : Int32} {w : zR} (h : fR_gone V n a0 x1 x2 = some w) : z_Met l ⟨"BarrierMarksModel", "gone", "(II)V"⟩ prog_9_method_16_code 4 none 0 0 (zc w) (zs w) [.ref a0, .int x1, .int x2] D dA V n w := by exact z_ofZ hl (by decide) (Nat.le_of_ble_eq_true rfl) (fun x C M => bR_gone C M V n a0 x1 x2 h)
/-! BarrierMarksModel.close(II)V -/
def fR_close_90 (K9 : zV → Nat → Nat → Int32 → Int32 → Option zR) (K44 : zV → Nat → Nat → Int32 → Int32 → Int32 → Option zR) (V : zV) (n : Nat) (a0 : Nat) (x1 : Int32) (x3 : Int32) (x4 : Int32) : Option zR :=
    K44 V n a0 x1 x3 ((x4 + (-1)))
set_option maxHeartbeats 4000000 in
set_option maxRecDepth 100000 in
theorem bR_close_90 {x : zX} {w : zR} {K9 : zV → Nat → Nat → Int32 → Int32 → Option zR} {K44 : zV → Nat → Nat → Int32 → Int32 → Int32 → Option zR} (C : zC x prog_9_method_17_code "BarrierMarksModel" "close" 5 1 23 none) (M : zM x (zc w) (zs w)) (hK9 : ∀ (V : zV) (n : Nat) (a0 : Nat) (x1 : Int32) (x3 : Int32), K9 V n a0 x1 x3 = some w → zZ x 5 0 0 w V n 9 [(0, va_rf (some a0)), (1, .int x1), (3, .int x3)] []) (hK44 : ∀ (V : zV) (n : Nat) (a0 : Nat) (x1 : Int32) (x3 : Int32) (x4 : Int32), K44 V n a0 x1 x3 x4 = some w → zZ x 5 0 0 w V n 44 [(0, va_rf (some a0)), (1, .int x1), (3, .int x3), (4, .int x4)] []) : ∀ (V : zV) (n : Nat) (a0 : Nat) (x1 : Int32) (x3 : Int32) (x4 : Int32), fR_close_90 K9 K44 V n a0 x1 x3 x4 = some w → zZ x 5 0 0 w V n 90 [(0, va_rf (some a0)), (1, .int x1), (3, .int x3), (4, .int x4)] [] := by
  intro V n a0 x1 x3 x4 h
  unfold fR_close_90 at h
  refine z_iinc (lv' := [(4, .int (x4 + (-1))), (0, va_rf (some a0)), (1, .int x1), (3, .int x3)]) C 3 dR_close_90 rfl rfl (by decide) rfl ?_
  refine z_goto C 44 dR_close_93 (by decide) ?_
  refine z_sub [1, 2, 3, 0] rfl ?_
  exact hK44 V n a0 x1 x3 ((x4 + (-1))) h
def fR_close_44 (K9 : zV → Nat → Nat → Int32 → Int32 → Option zR) : Nat → zV → Nat → Nat → Int32 → Int32 → Int32 → Option zR
  | 0 => fun _ _ _ _ _ _ => none
  | f9 + 1 => fun V n a0 x1 x3 x4 =>
    if x4 < 0 then (
    K9 V n a0 x1 (x3 + 1)) else (
    (zgR V (some a0) [6] 10).bind fun t1 =>
    (zaI V t1 0 ((((16 : Int32) * x3) + x4))).bind fun t2 =>
    if t2 = (1 : Int32) then (
    (zgR V (some a0) [6] 11).bind fun t3 =>
    (zaL V t3 1 ((((16 : Int32) * x3) + x4))).bind fun t4 =>
    if (lg_cmp t4 x1.toInt64) = 0 then (
    (z_obj V (some a0) [6]).bind fun o => zcV (fR_gone V n o.1 x3 x4) fun V n =>
    fR_close_90 K9 (fR_close_44 K9 f9) V n a0 x1 x3 x4) else (
    fR_close_90 K9 (fR_close_44 K9 f9) V n a0 x1 x3 x4)) else (
    fR_close_90 K9 (fR_close_44 K9 f9) V n a0 x1 x3 x4))
set_option maxHeartbeats 4000000 in
set_option maxRecDepth 100000 in
theorem bR_close_44 {x : zX} {w : zR} {K9 : zV → Nat → Nat → Int32 → Int32 → Option zR} (C : zC x prog_9_method_17_code "BarrierMarksModel" "close" 5 1 23 none) (M : zM x (zc w) (zs w)) (hK9 : ∀ (V : zV) (n : Nat) (a0 : Nat) (x1 : Int32) (x3 : Int32), K9 V n a0 x1 x3 = some w → zZ x 5 0 0 w V n 9 [(0, va_rf (some a0)), (1, .int x1), (3, .int x3)] []) : ∀ (f9 : Nat) (V : zV) (n : Nat) (a0 : Nat) (x1 : Int32) (x3 : Int32) (x4 : Int32), fR_close_44 K9 f9 V n a0 x1 x3 x4 = some w → zZ x 5 0 0 w V n 44 [(0, va_rf (some a0)), (1, .int x1), (3, .int x3), (4, .int x4)] [] := by
  intro f9
  induction f9 with
  | zero =>
    intro V n a0 x1 x3 x4 h
    cases h
  | succ f9 ih =>
    intro V n a0 x1 x3 x4 h
    unfold fR_close_44 at h
    refine z_iload C 3 dR_close_44 rfl ?_
    refine z_if_lt C 96 dR_close_46 (by decide) h (fun h => ?_) (fun h => ?_)
    · refine z_iinc (lv' := [(3, .int (x3 + 1)), (0, va_rf (some a0)), (1, .int x1), (4, .int x4)]) C 2 dR_close_96 rfl rfl (by decide) rfl ?_
      refine z_goto C 9 dR_close_99 (by decide) ?_
      refine z_sub [1, 2, 0] rfl ?_
      exact hK9 V n a0 x1 (x3 + 1) h
    · refine z_aload_n C 0 dR_close_49 rfl rfl ?_
      refine z_getR C fl_R_30 dR_close_50 h (fun t1 h => ?_)
      refine z_bipush (v := 16) C dR_close_53 (by decide) ?_
      refine z_iload_n C 2 dR_close_55 rfl rfl ?_
      refine z_imul C dR_close_56 ?_
      refine z_iload C 3 dR_close_57 rfl ?_
      refine z_iadd C dR_close_59 ?_
      refine z_iald C rfl dR_close_60 h (fun t2 h => ?_)
      refine z_iconst (v := 1) C dR_close_61 (by decide) ?_
      refine z_icmp_ne C 90 dR_close_62 (by decide) h (fun h => ?_) (fun h => ?_)
      · exact bR_close_90 C M hK9 ih V n a0 x1 x3 x4 h
      · refine z_aload_n C 0 dR_close_65 rfl rfl ?_
        refine z_getR C fl_R_33 dR_close_66 h (fun t3 h => ?_)
        refine z_bipush (v := 16) C dR_close_69 (by decide) ?_
        refine z_iload_n C 2 dR_close_71 rfl rfl ?_
        refine z_imul C dR_close_72 ?_
        refine z_iload C 3 dR_close_73 rfl ?_
        refine z_iadd C dR_close_75 ?_
        refine z_lald C rfl dR_close_76 h (fun t4 h => ?_)
        refine z_iload_n C 1 dR_close_77 rfl rfl ?_
        refine z_i2l C dR_close_78 ?_
        refine z_lcmp C dR_close_79 ?_
        refine z_if_ne C 90 dR_close_80 (by decide) h (fun h => ?_) (fun h => ?_)
        · exact bR_close_90 C M hK9 ih V n a0 x1 x3 x4 h
        · refine z_aload_n C 0 dR_close_83 rfl rfl ?_
          refine z_iload_n C 2 dR_close_84 rfl rfl ?_
          refine z_iload C 3 dR_close_85 rfl ?_
          refine z_vPV (ci := 6) C M zRmP [.int x3, .int x4] cv_R_144 rfl (by decide) (by decide) rfl rfl (Nat.zero_le _) dR_close_87 (fun b => fR_gone V n b x3 x4) h (fun b w1 e1 l D dA hl => mR_gone hl e1) (fun V n h => ?_)
          exact bR_close_90 C M hK9 ih V n a0 x1 x3 x4 h
def fR_close_34 (K9 : zV → Nat → Nat → Int32 → Int32 → Option zR) (V : zV) (n : Nat) (a0 : Nat) (x1 : Int32) (x3 : Int32) : Option zR :=
    (zgR V (some a0) [6] 12).bind fun t1 =>
    (zaI V t1 0 x3).bind fun t2 =>
    fR_close_44 K9 zF V n a0 x1 x3 ((t2 - (1 : Int32)))
set_option maxHeartbeats 4000000 in
set_option maxRecDepth 100000 in
theorem bR_close_34 {x : zX} {w : zR} {K9 : zV → Nat → Nat → Int32 → Int32 → Option zR} (C : zC x prog_9_method_17_code "BarrierMarksModel" "close" 5 1 23 none) (M : zM x (zc w) (zs w)) (hK9 : ∀ (V : zV) (n : Nat) (a0 : Nat) (x1 : Int32) (x3 : Int32), K9 V n a0 x1 x3 = some w → zZ x 5 0 0 w V n 9 [(0, va_rf (some a0)), (1, .int x1), (3, .int x3)] []) : ∀ (V : zV) (n : Nat) (a0 : Nat) (x1 : Int32) (x3 : Int32), fR_close_34 K9 V n a0 x1 x3 = some w → zZ x 5 0 0 w V n 34 [(0, va_rf (some a0)), (1, .int x1), (3, .int x3)] [] := by
  intro V n a0 x1 x3 h
  unfold fR_close_34 at h
  refine z_aload_n C 0 dR_close_34 rfl rfl ?_
  refine z_getR C fl_R_36 dR_close_35 h (fun t1 h => ?_)
  refine z_iload_n C 2 dR_close_38 rfl rfl ?_
  refine z_iald C rfl dR_close_39 h (fun t2 h => ?_)
  refine z_iconst (v := 1) C dR_close_40 (by decide) ?_
  refine z_isub C dR_close_41 ?_
  refine z_istore (lv' := [(4, .int (t2 - (1 : Int32))), (0, va_rf (some a0)), (1, .int x1), (3, .int x3)]) C dR_close_42 (by decide) rfl ?_
  refine z_sub [1, 2, 3, 0] rfl ?_
  exact bR_close_44 C M hK9 zF V n a0 x1 x3 ((t2 - (1 : Int32))) h
def fR_close_9 : Nat → zV → Nat → Nat → Int32 → Int32 → Option zR
  | 0 => fun _ _ _ _ _ => none
  | f9 + 1 => fun V n a0 x1 x3 =>
    (zgI V (some a0) [6] 7).bind fun t1 =>
    if t1 ≤ x3 then (
    zrV V n) else (
    (zgR V (some a0) [6] 18).bind fun t2 =>
    (zaI V t2 0 x3).bind fun t3 =>
    if t3 = x1 then (
    (zgR V (some a0) [6] 18).bind fun t4 =>
    (zsI V t4 0 x3 (-1 : Int32)).bind fun V =>
    fR_close_34 (fR_close_9 f9) V n a0 x1 x3) else (
    fR_close_34 (fR_close_9 f9) V n a0 x1 x3))
set_option maxHeartbeats 4000000 in
set_option maxRecDepth 100000 in
theorem bR_close_9 {x : zX} {w : zR} (C : zC x prog_9_method_17_code "BarrierMarksModel" "close" 5 1 23 none) (M : zM x (zc w) (zs w)) : ∀ (f9 : Nat) (V : zV) (n : Nat) (a0 : Nat) (x1 : Int32) (x3 : Int32), fR_close_9 f9 V n a0 x1 x3 = some w → zZ x 5 0 0 w V n 9 [(0, va_rf (some a0)), (1, .int x1), (3, .int x3)] [] := by
  intro f9
  induction f9 with
  | zero =>
    intro V n a0 x1 x3 h
    cases h
  | succ f9 ih =>
    intro V n a0 x1 x3 h
    unfold fR_close_9 at h
    refine z_iload_n C 2 dR_close_9 rfl rfl ?_
    refine z_aload_n C 0 dR_close_10 rfl rfl ?_
    refine z_getI C fl_R_103 dR_close_11 h (fun t1 h => ?_)
    refine z_icmp_ge C 102 dR_close_14 (by decide) h (fun h => ?_) (fun h => ?_)
    · exact z_vret C M (Nat.zero_le _) (Nat.zero_le _) dR_close_102 h
    · refine z_aload_n C 0 dR_close_17 rfl rfl ?_
      refine z_getR C fl_R_54 dR_close_18 h (fun t2 h => ?_)
      refine z_iload_n C 2 dR_close_21 rfl rfl ?_
      refine z_iald C rfl dR_close_22 h (fun t3 h => ?_)
      refine z_iload_n C 1 dR_close_23 rfl rfl ?_
      refine z_icmp_ne C 34 dR_close_24 (by decide) h (fun h => ?_) (fun h => ?_)
      · exact bR_close_34 C M ih V n a0 x1 x3 h
      · refine z_aload_n C 0 dR_close_27 rfl rfl ?_
        refine z_getR C fl_R_54 dR_close_28 h (fun t4 h => ?_)
        refine z_iload_n C 2 dR_close_31 rfl rfl ?_
        refine z_iconst (v := (-1)) C dR_close_32 (by decide) ?_
        refine z_iast C rfl dR_close_33 h (fun V h => ?_)
        exact bR_close_34 C M ih V n a0 x1 x3 h
def fR_close (V : zV) (n : Nat) (a0 : Nat) (x1 : Int32) (x2 : Int32) : Option zR :=
    (zgR V (some a0) [6] 20).bind fun t1 =>
    (zsI V t1 0 x1 x2).bind fun V =>
    fR_close_9 zF V n a0 x1 (0 : Int32)
set_option maxHeartbeats 4000000 in
set_option maxRecDepth 100000 in
theorem bR_close {x : zX} {w : zR} (C : zC x prog_9_method_17_code "BarrierMarksModel" "close" 5 1 23 none) (M : zM x (zc w) (zs w)) : ∀ (V : zV) (n : Nat) (a0 : Nat) (x1 : Int32) (x2 : Int32), fR_close V n a0 x1 x2 = some w → zZ x 5 0 0 w V n 0 [(0, va_rf (some a0)), (1, .int x1), (2, .int x2)] [] := by
  intro V n a0 x1 x2 h
  unfold fR_close at h
  refine z_aload_n C 0 dR_close_0 rfl rfl ?_
  refine z_getR C fl_R_57 dR_close_1 h (fun t1 h => ?_)
  refine z_iload_n C 1 dR_close_4 rfl rfl ?_
  refine z_iload_n C 2 dR_close_5 rfl rfl ?_
  refine z_iast C rfl dR_close_6 h (fun V h => ?_)
  refine z_iconst (v := 0) C dR_close_7 (by decide) ?_
  refine z_istore_n (lv' := [(3, .int (0 : Int32)), (0, va_rf (some a0)), (1, .int x1), (2, .int x2)]) (i := 3) C dR_close_8 rfl (by decide) rfl ?_
  refine z_sub [1, 2, 0] rfl ?_
  exact bR_close_9 C M zF V n a0 x1 (0 : Int32) h
theorem mR_close {l : Launch} {D : va_G} {dA : Nat → ClassId} {V : zV} {n : Nat} (hl : l.stackTraces = false) {a0 : Nat} {x1 : Int32} {x2 : Int32} {w : zR} (h : fR_close V n a0 x1 x2 = some w) : z_Met l ⟨"BarrierMarksModel", "close", "(II)V"⟩ prog_9_method_17_code 5 none 1 23 (zc w) (zs w) [.ref a0, .int x1, .int x2] D dA V n w := by exact z_ofZ hl (by decide) (Nat.le_of_ble_eq_true rfl) (fun x C M => bR_close C M V n a0 x1 x2 h)
/-! BarrierMarksModel.keeper()I -/
def fR_keeper_158 (K138 : zV → Nat → Nat → Int32 → Int32 → Option zR) (V : zV) (n : Nat) (a0 : Nat) (x1 : Int32) (x3 : Int32) : Option zR :=
    K138 V n a0 x1 (x3 + 1)
set_option maxHeartbeats 4000000 in
set_option maxRecDepth 100000 in
theorem bR_keeper_158 {x : zX} {w : zR} {K138 : zV → Nat → Nat → Int32 → Int32 → Option zR} (C : zC x prog_9_method_23_code "BarrierMarksModel" "keeper" 4 2 47 (some .int)) (M : zM x (zc w) (zs w)) (hK138 : ∀ (V : zV) (n : Nat) (a0 : Nat) (x1 : Int32) (x3 : Int32), K138 V n a0 x1 x3 = some w → zZ x 4 0 0 w V n 138 [(0, va_rf (some a0)), (1, .int x1), (3, .int x3)] []) : ∀ (V : zV) (n : Nat) (a0 : Nat) (x1 : Int32) (x3 : Int32), fR_keeper_158 K138 V n a0 x1 x3 = some w → zZ x 4 0 0 w V n 158 [(0, va_rf (some a0)), (1, .int x1), (3, .int x3)] [] := by
  intro V n a0 x1 x3 h
  unfold fR_keeper_158 at h
  refine z_iinc (lv' := [(3, .int (x3 + 1)), (0, va_rf (some a0)), (1, .int x1)]) C 2 dR_keeper_158 rfl rfl (by decide) rfl ?_
  refine z_goto C 138 dR_keeper_161 (by decide) ?_
  refine z_sub [1, 2, 0] rfl ?_
  exact hK138 V n a0 x1 (x3 + 1) h
def fR_keeper_138 : Nat → zV → Nat → Nat → Int32 → Int32 → Option zR
  | 0 => fun _ _ _ _ _ => none
  | f9 + 1 => fun V n a0 x1 x3 =>
    if x1 ≤ x3 then (
    zrI (8 : Int32) V n) else (
    (zgR V (some a0) [6] 20).bind fun t1 =>
    (zaI V t1 0 x3).bind fun t2 =>
    if t2 = 0 then (
    (z_obj V (some a0) [6]).bind fun o => zcV (fR_close V n o.1 x3 (2 : Int32)) fun V n =>
    fR_keeper_158 (fR_keeper_138 f9) V n a0 x1 x3) else (
    fR_keeper_158 (fR_keeper_138 f9) V n a0 x1 x3))
set_option maxHeartbeats 4000000 in
set_option maxRecDepth 100000 in
theorem bR_keeper_138 {x : zX} {w : zR} (C : zC x prog_9_method_23_code "BarrierMarksModel" "keeper" 4 2 47 (some .int)) (M : zM x (zc w) (zs w)) : ∀ (f9 : Nat) (V : zV) (n : Nat) (a0 : Nat) (x1 : Int32) (x3 : Int32), fR_keeper_138 f9 V n a0 x1 x3 = some w → zZ x 4 0 0 w V n 138 [(0, va_rf (some a0)), (1, .int x1), (3, .int x3)] [] := by
  intro f9
  induction f9 with
  | zero =>
    intro V n a0 x1 x3 h
    cases h
  | succ f9 ih =>
    intro V n a0 x1 x3 h
    unfold fR_keeper_138 at h
    refine z_iload_n C 2 dR_keeper_138 rfl rfl ?_
    refine z_iload_n C 1 dR_keeper_139 rfl rfl ?_
    refine z_icmp_ge C 164 dR_keeper_140 (by decide) h (fun h => ?_) (fun h => ?_)
    · refine z_bipush (v := 8) C dR_keeper_164 (by decide) ?_
      exact z_iret C M (Nat.zero_le _) (Nat.zero_le _) dR_keeper_166 h
    · refine z_aload_n C 0 dR_keeper_143 rfl rfl ?_
      refine z_getR C fl_R_57 dR_keeper_144 h (fun t1 h => ?_)
      refine z_iload_n C 2 dR_keeper_147 rfl rfl ?_
      refine z_iald C rfl dR_keeper_148 h (fun t2 h => ?_)
      refine z_if_ne C 158 dR_keeper_149 (by decide) h (fun h => ?_) (fun h => ?_)
      · exact bR_keeper_158 C M ih V n a0 x1 x3 h
      · refine z_aload_n C 0 dR_keeper_152 rfl rfl ?_
        refine z_iload_n C 2 dR_keeper_153 rfl rfl ?_
        refine z_iconst (v := 2) C dR_keeper_154 (by decide) ?_
        refine z_vPV (ci := 6) C M zRmP [.int x3, .int (2 : Int32)] cv_R_159 rfl (by decide) (by decide) rfl rfl (Nat.zero_le _) dR_keeper_155 (fun b => fR_close V n b x3 (2 : Int32)) h (fun b w1 e1 l D dA hl => mR_close hl e1) (fun V n h => ?_)
        exact bR_keeper_158 C M ih V n a0 x1 x3 h
def fR_keeper_35 : Nat → zV → Nat → Nat → Int32 → Int32 → Int32 → Option zR
  | 0 => fun _ _ _ _ _ _ => none
  | f9 + 1 => fun V n a0 x1 x2 x3 =>
    (zgI V (some a0) [6] 29).bind fun t1 =>
    if t1 ≤ x3 then (
    (zgR V (some a0) [6] 20).bind fun t2 =>
    (zaI V t2 0 x1).bind fun t3 =>
    if t3 = 0 then (
    (zgR V (some a0) [6] 28).bind fun t4 =>
    (zaI V t4 2 ((((8 : Int32) * x1) + x2))).bind fun t5 =>
    if t5 = 0 then (
    (zgR V (some a0) [6] 28).bind fun t6 =>
    (zsZ V t6 2 ((((8 : Int32) * x1) + x2)) (1 : Int32)).bind fun V =>
    (z_obj V (some a0) [6]).bind fun o => zcI (fR_count V n o.1 x1) fun t7 V n =>
    (zgI V (some a0) [6] 0).bind fun t8 =>
    if t8 ≤ t7 then (
    (z_obj V (some a0) [6]).bind fun o => zcV (fR_close V n o.1 x1 (1 : Int32)) fun V n =>
    fR_keeper_138 zF V n a0 x1 (0 : Int32)) else (
    zrI (7 : Int32) V n)) else (
    zrI (7 : Int32) V n)) else (
    zrI (7 : Int32) V n)) else (
    (zgR V (some a0) [6] 30).bind fun t9 =>
    (zgR V (some a0) [6] 30).bind fun t10 =>
    (zaI V t10 0 ((x3 + (1 : Int32)))).bind fun t11 =>
    (zsI V t9 0 x3 t11).bind fun V =>
    (zgR V (some a0) [6] 31).bind fun t12 =>
    (zgR V (some a0) [6] 31).bind fun t13 =>
    (zaI V t13 0 ((x3 + (1 : Int32)))).bind fun t14 =>
    (zsI V t12 0 x3 t14).bind fun V =>
    (fR_keeper_35 f9) V n a0 x1 x2 (x3 + 1))
set_option maxHeartbeats 4000000 in
set_option maxRecDepth 100000 in
theorem bR_keeper_35 {x : zX} {w : zR} (C : zC x prog_9_method_23_code "BarrierMarksModel" "keeper" 4 2 47 (some .int)) (M : zM x (zc w) (zs w)) : ∀ (f9 : Nat) (V : zV) (n : Nat) (a0 : Nat) (x1 : Int32) (x2 : Int32) (x3 : Int32), fR_keeper_35 f9 V n a0 x1 x2 x3 = some w → zZ x 4 0 0 w V n 35 [(0, va_rf (some a0)), (1, .int x1), (2, .int x2), (3, .int x3)] [] := by
  intro f9
  induction f9 with
  | zero =>
    intro V n a0 x1 x2 x3 h
    cases h
  | succ f9 ih =>
    intro V n a0 x1 x2 x3 h
    unfold fR_keeper_35 at h
    refine z_iload_n C 3 dR_keeper_35 rfl rfl ?_
    refine z_aload_n C 0 dR_keeper_36 rfl rfl ?_
    refine z_getI C fl_R_138 dR_keeper_37 h (fun t1 h => ?_)
    refine z_icmp_ge C 77 dR_keeper_40 (by decide) h (fun h => ?_) (fun h => ?_)
    · refine z_aload_n C 0 dR_keeper_77 rfl rfl ?_
      refine z_getR C fl_R_57 dR_keeper_78 h (fun t2 h => ?_)
      refine z_iload_n C 1 dR_keeper_81 rfl rfl ?_
      refine z_iald C rfl dR_keeper_82 h (fun t3 h => ?_)
      refine z_if_ne C 100 dR_keeper_83 (by decide) h (fun h => ?_) (fun h => ?_)
      · refine z_bipush (v := 7) C dR_keeper_100 (by decide) ?_
        exact z_iret C M (Nat.zero_le _) (Nat.zero_le _) dR_keeper_102 h
      · refine z_aload_n C 0 dR_keeper_86 rfl rfl ?_
        refine z_getR C fl_R_81 dR_keeper_87 h (fun t4 h => ?_)
        refine z_bipush (v := 8) C dR_keeper_90 (by decide) ?_
        refine z_iload_n C 1 dR_keeper_92 rfl rfl ?_
        refine z_imul C dR_keeper_93 ?_
        refine z_iload_n C 2 dR_keeper_94 rfl rfl ?_
        refine z_iadd C dR_keeper_95 ?_
        refine z_zald C rfl dR_keeper_96 h (fun t5 h => ?_)
        refine z_if_eq C 103 dR_keeper_97 (by decide) h (fun h => ?_) (fun h => ?_)
        · refine z_aload_n C 0 dR_keeper_103 rfl rfl ?_
          refine z_getR C fl_R_81 dR_keeper_104 h (fun t6 h => ?_)
          refine z_bipush (v := 8) C dR_keeper_107 (by decide) ?_
          refine z_iload_n C 1 dR_keeper_109 rfl rfl ?_
          refine z_imul C dR_keeper_110 ?_
          refine z_iload_n C 2 dR_keeper_111 rfl rfl ?_
          refine z_iadd C dR_keeper_112 ?_
          refine z_iconst (v := 1) C dR_keeper_113 (by decide) ?_
          refine z_zast C rfl dR_keeper_114 h (fun V h => ?_)
          refine z_aload_n C 0 dR_keeper_115 rfl rfl ?_
          refine z_iload_n C 1 dR_keeper_116 rfl rfl ?_
          refine z_vPI (ci := 6) C M zRmP [.int x1] cv_R_156 rfl (by decide) (by decide) rfl rfl (Nat.zero_le _) dR_keeper_117 (fun b => fR_count V n b x1) h (fun b w1 e1 l D dA hl => mR_count hl e1) (fun t7 V n h => ?_)
          refine z_aload_n C 0 dR_keeper_120 rfl rfl ?_
          refine z_getI C fl_R_96 dR_keeper_121 h (fun t8 h => ?_)
          refine z_icmp_ge C 130 dR_keeper_124 (by decide) h (fun h => ?_) (fun h => ?_)
          · refine z_aload_n C 0 dR_keeper_130 rfl rfl ?_
            refine z_iload_n C 1 dR_keeper_131 rfl rfl ?_
            refine z_iconst (v := 1) C dR_keeper_132 (by decide) ?_
            refine z_vPV (ci := 6) C M zRmP [.int x1, .int (1 : Int32)] cv_R_159 rfl (by decide) (by decide) rfl rfl (Nat.zero_le _) dR_keeper_133 (fun b => fR_close V n b x1 (1 : Int32)) h (fun b w1 e1 l D dA hl => mR_close hl e1) (fun V n h => ?_)
            refine z_iconst (v := 0) C dR_keeper_136 (by decide) ?_
            refine z_istore_n (lv' := [(3, .int (0 : Int32)), (0, va_rf (some a0)), (1, .int x1), (2, .int x2)]) (i := 3) C dR_keeper_137 rfl (by decide) rfl ?_
            refine z_sub [1, 2, 0] rfl ?_
            exact bR_keeper_138 C M zF V n a0 x1 (0 : Int32) h
          · refine z_bipush (v := 7) C dR_keeper_127 (by decide) ?_
            exact z_iret C M (Nat.zero_le _) (Nat.zero_le _) dR_keeper_129 h
        · refine z_bipush (v := 7) C dR_keeper_100 (by decide) ?_
          exact z_iret C M (Nat.zero_le _) (Nat.zero_le _) dR_keeper_102 h
    · refine z_aload_n C 0 dR_keeper_43 rfl rfl ?_
      refine z_getR C fl_R_84 dR_keeper_44 h (fun t9 h => ?_)
      refine z_iload_n C 3 dR_keeper_47 rfl rfl ?_
      refine z_aload_n C 0 dR_keeper_48 rfl rfl ?_
      refine z_getR C fl_R_84 dR_keeper_49 h (fun t10 h => ?_)
      refine z_iload_n C 3 dR_keeper_52 rfl rfl ?_
      refine z_iconst (v := 1) C dR_keeper_53 (by decide) ?_
      refine z_iadd C dR_keeper_54 ?_
      refine z_iald C rfl dR_keeper_55 h (fun t11 h => ?_)
      refine z_iast C rfl dR_keeper_56 h (fun V h => ?_)
      refine z_aload_n C 0 dR_keeper_57 rfl rfl ?_
      refine z_getR C fl_R_87 dR_keeper_58 h (fun t12 h => ?_)
      refine z_iload_n C 3 dR_keeper_61 rfl rfl ?_
      refine z_aload_n C 0 dR_keeper_62 rfl rfl ?_
      refine z_getR C fl_R_87 dR_keeper_63 h (fun t13 h => ?_)
      refine z_iload_n C 3 dR_keeper_66 rfl rfl ?_
      refine z_iconst (v := 1) C dR_keeper_67 (by decide) ?_
      refine z_iadd C dR_keeper_68 ?_
      refine z_iald C rfl dR_keeper_69 h (fun t14 h => ?_)
      refine z_iast C rfl dR_keeper_70 h (fun V h => ?_)
      refine z_iinc (lv' := [(3, .int (x3 + 1)), (0, va_rf (some a0)), (1, .int x1), (2, .int x2)]) C 3 dR_keeper_71 rfl rfl (by decide) rfl ?_
      refine z_goto C 35 dR_keeper_74 (by decide) ?_
      refine z_sub [1, 2, 3, 0] rfl ?_
      exact ih V n a0 x1 x2 (x3 + 1) h
def fR_keeper (V : zV) (n : Nat) (a0 : Nat) : Option zR :=
    (zgI V (some a0) [6] 29).bind fun t1 =>
    if t1 = 0 then (
    zrI (0 : Int32) V n) else (
    (zgR V (some a0) [6] 30).bind fun t2 =>
    (zaI V t2 0 (0 : Int32)).bind fun t3 =>
    (zgR V (some a0) [6] 31).bind fun t4 =>
    (zaI V t4 0 (0 : Int32)).bind fun t5 =>
    (zgI V (some a0) [6] 29).bind fun t6 =>
    (zpI V (some a0) [6] 29 ((t6 - (1 : Int32)))).bind fun V =>
    fR_keeper_35 zF V n a0 t3 t5 (0 : Int32))
set_option maxHeartbeats 4000000 in
set_option maxRecDepth 100000 in
theorem bR_keeper {x : zX} {w : zR} (C : zC x prog_9_method_23_code "BarrierMarksModel" "keeper" 4 2 47 (some .int)) (M : zM x (zc w) (zs w)) : ∀ (V : zV) (n : Nat) (a0 : Nat), fR_keeper V n a0 = some w → zZ x 4 0 0 w V n 0 [(0, va_rf (some a0))] [] := by
  intro V n a0 h
  unfold fR_keeper at h
  refine z_aload_n C 0 dR_keeper_0 rfl rfl ?_
  refine z_getI C fl_R_138 dR_keeper_1 h (fun t1 h => ?_)
  refine z_if_ne C 9 dR_keeper_4 (by decide) h (fun h => ?_) (fun h => ?_)
  · refine z_aload_n C 0 dR_keeper_9 rfl rfl ?_
    refine z_getR C fl_R_84 dR_keeper_10 h (fun t2 h => ?_)
    refine z_iconst (v := 0) C dR_keeper_13 (by decide) ?_
    refine z_iald C rfl dR_keeper_14 h (fun t3 h => ?_)
    refine z_istore_n (lv' := [(1, .int t3), (0, va_rf (some a0))]) (i := 1) C dR_keeper_15 rfl (by decide) rfl ?_
    refine z_aload_n C 1 dR_keeper_16 rfl rfl ?_
    refine z_getR C fl_R_87 dR_keeper_17 h (fun t4 h => ?_)
    refine z_iconst (v := 0) C dR_keeper_20 (by decide) ?_
    refine z_iald C rfl dR_keeper_21 h (fun t5 h => ?_)
    refine z_istore_n (lv' := [(2, .int t5), (1, .int t3), (0, va_rf (some a0))]) (i := 2) C dR_keeper_22 rfl (by decide) rfl ?_
    refine z_aload_n C 2 dR_keeper_23 rfl rfl ?_
    refine z_dup C dR_keeper_24 (zrfcat _) ?_
    refine z_getI C fl_R_138 dR_keeper_25 h (fun t6 h => ?_)
    refine z_iconst (v := 1) C dR_keeper_28 (by decide) ?_
    refine z_isub C dR_keeper_29 ?_
    refine z_putI C pf_R_138 (fun h => absurd h (by decide)) dR_keeper_30 h (fun V h => ?_)
    refine z_iconst (v := 0) C dR_keeper_33 (by decide) ?_
    refine z_istore_n (lv' := [(3, .int (0 : Int32)), (2, .int t5), (1, .int t3), (0, va_rf (some a0))]) (i := 3) C dR_keeper_34 rfl (by decide) rfl ?_
    refine z_sub [3, 2, 1, 0] rfl ?_
    exact bR_keeper_35 C M zF V n a0 t3 t5 (0 : Int32) h
  · refine z_iconst (v := 0) C dR_keeper_7 (by decide) ?_
    exact z_iret C M (Nat.zero_le _) (Nat.zero_le _) dR_keeper_8 h
theorem mR_keeper {l : Launch} {D : va_G} {dA : Nat → ClassId} {V : zV} {n : Nat} (hl : l.stackTraces = false) {a0 : Nat} {w : zR} (h : fR_keeper V n a0 = some w) : z_Met l ⟨"BarrierMarksModel", "keeper", "()I"⟩ prog_9_method_23_code 4 (some .int) 2 47 (zc w) (zs w) [.ref a0] D dA V n w := by exact z_ofZ hl (by decide) (Nat.le_of_ble_eq_true rfl) (fun x C M => bR_keeper C M V n a0 h)
/-! BarrierMarksModel.hasCredit(I)Z -/
def fR_hasCredit_39 (K4 : zV → Nat → Nat → Int32 → Int32 → Int32 → Option zR) (V : zV) (n : Nat) (a0 : Nat) (x1 : Int32) (x3 : Int32) (s0 : Int32) (s1 : Int32) : Option zR :=
    K4 V n a0 x1 (s0 &&& s1) (x3 + 1)
set_option maxHeartbeats 4000000 in
set_option maxRecDepth 100000 in
theorem bR_hasCredit_39 {x : zX} {w : zR} {K4 : zV → Nat → Nat → Int32 → Int32 → Int32 → Option zR} (C : zC x prog_9_method_18_code "BarrierMarksModel" "hasCredit" 4 0 0 (some .boolean)) (M : zM x (zc w) (zs w)) (hK4 : ∀ (V : zV) (n : Nat) (a0 : Nat) (x1 : Int32) (x2 : Int32) (x3 : Int32), K4 V n a0 x1 x2 x3 = some w → zZ x 4 0 0 w V n 4 [(0, va_rf (some a0)), (1, .int x1), (2, .int x2), (3, .int x3)] []) : ∀ (V : zV) (n : Nat) (a0 : Nat) (x1 : Int32) (x3 : Int32) (s0 : Int32) (s1 : Int32), fR_hasCredit_39 K4 V n a0 x1 x3 s0 s1 = some w → zZ x 4 0 0 w V n 39 [(0, va_rf (some a0)), (1, .int x1), (3, .int x3)] [.int s1, .int s0] := by
  intro V n a0 x1 x3 s0 s1 h
  unfold fR_hasCredit_39 at h
  refine z_iand C dR_hasCredit_39 ?_
  refine z_istore_n (lv' := [(2, .int (s0 &&& s1)), (0, va_rf (some a0)), (1, .int x1), (3, .int x3)]) (i := 2) C dR_hasCredit_40 rfl (by decide) rfl ?_
  refine z_iinc (lv' := [(3, .int (x3 + 1)), (2, .int (s0 &&& s1)), (0, va_rf (some a0)), (1, .int x1)]) C 3 dR_hasCredit_41 rfl rfl (by decide) rfl ?_
  refine z_goto C 4 dR_hasCredit_44 (by decide) ?_
  refine z_sub [2, 3, 1, 0] rfl ?_
  exact hK4 V n a0 x1 (s0 &&& s1) (x3 + 1) h
def fR_hasCredit_34 (K4 : zV → Nat → Nat → Int32 → Int32 → Int32 → Option zR) (V : zV) (n : Nat) (a0 : Nat) (x1 : Int32) (x3 : Int32) (s0 : Int32) : Option zR :=
    fR_hasCredit_39 K4 V n a0 x1 x3 s0 (1 : Int32)
set_option maxHeartbeats 4000000 in
set_option maxRecDepth 100000 in
theorem bR_hasCredit_34 {x : zX} {w : zR} {K4 : zV → Nat → Nat → Int32 → Int32 → Int32 → Option zR} (C : zC x prog_9_method_18_code "BarrierMarksModel" "hasCredit" 4 0 0 (some .boolean)) (M : zM x (zc w) (zs w)) (hK4 : ∀ (V : zV) (n : Nat) (a0 : Nat) (x1 : Int32) (x2 : Int32) (x3 : Int32), K4 V n a0 x1 x2 x3 = some w → zZ x 4 0 0 w V n 4 [(0, va_rf (some a0)), (1, .int x1), (2, .int x2), (3, .int x3)] []) : ∀ (V : zV) (n : Nat) (a0 : Nat) (x1 : Int32) (x3 : Int32) (s0 : Int32), fR_hasCredit_34 K4 V n a0 x1 x3 s0 = some w → zZ x 4 0 0 w V n 34 [(0, va_rf (some a0)), (1, .int x1), (3, .int x3)] [.int s0] := by
  intro V n a0 x1 x3 s0 h
  unfold fR_hasCredit_34 at h
  refine z_iconst (v := 1) C dR_hasCredit_34 (by decide) ?_
  refine z_goto C 39 dR_hasCredit_35 (by decide) ?_
  exact bR_hasCredit_39 C M hK4 V n a0 x1 x3 s0 (1 : Int32) h
def fR_hasCredit_4 : Nat → zV → Nat → Nat → Int32 → Int32 → Int32 → Option zR
  | 0 => fun _ _ _ _ _ _ => none
  | f9 + 1 => fun V n a0 x1 x2 x3 =>
    (zgI V (some a0) [6] 7).bind fun t1 =>
    if t1 ≤ x3 then (
    zrZ x2 V n) else (
    (zgR V (some a0) [6] 8).bind fun t2 =>
    (zaI V t2 0 x3).bind fun t3 =>
    if t3 = x1 then (
    (zgR V (some a0) [6] 12).bind fun t4 =>
    (zaI V t4 0 x3).bind fun t5 =>
    if (8 : Int32) ≤ t5 then (
    fR_hasCredit_39 (fR_hasCredit_4 f9) V n a0 x1 x3 x2 (0 : Int32)) else (
    fR_hasCredit_34 (fR_hasCredit_4 f9) V n a0 x1 x3 x2)) else (
    fR_hasCredit_34 (fR_hasCredit_4 f9) V n a0 x1 x3 x2))
set_option maxHeartbeats 4000000 in
set_option maxRecDepth 100000 in
theorem bR_hasCredit_4 {x : zX} {w : zR} (C : zC x prog_9_method_18_code "BarrierMarksModel" "hasCredit" 4 0 0 (some .boolean)) (M : zM x (zc w) (zs w)) : ∀ (f9 : Nat) (V : zV) (n : Nat) (a0 : Nat) (x1 : Int32) (x2 : Int32) (x3 : Int32), fR_hasCredit_4 f9 V n a0 x1 x2 x3 = some w → zZ x 4 0 0 w V n 4 [(0, va_rf (some a0)), (1, .int x1), (2, .int x2), (3, .int x3)] [] := by
  intro f9
  induction f9 with
  | zero =>
    intro V n a0 x1 x2 x3 h
    cases h
  | succ f9 ih =>
    intro V n a0 x1 x2 x3 h
    unfold fR_hasCredit_4 at h
    refine z_iload_n C 3 dR_hasCredit_4 rfl rfl ?_
    refine z_aload_n C 0 dR_hasCredit_5 rfl rfl ?_
    refine z_getI C fl_R_103 dR_hasCredit_6 h (fun t1 h => ?_)
    refine z_icmp_ge C 47 dR_hasCredit_9 (by decide) h (fun h => ?_) (fun h => ?_)
    · refine z_iload_n C 2 dR_hasCredit_47 rfl rfl ?_
      exact z_zret C M (Nat.zero_le _) (Nat.zero_le _) dR_hasCredit_48 h
    · refine z_iload_n C 2 dR_hasCredit_12 rfl rfl ?_
      refine z_aload_n C 0 dR_hasCredit_13 rfl rfl ?_
      refine z_getR C fl_R_24 dR_hasCredit_14 h (fun t2 h => ?_)
      refine z_iload_n C 3 dR_hasCredit_17 rfl rfl ?_
      refine z_iald C rfl dR_hasCredit_18 h (fun t3 h => ?_)
      refine z_iload_n C 1 dR_hasCredit_19 rfl rfl ?_
      refine z_icmp_ne C 34 dR_hasCredit_20 (by decide) h (fun h => ?_) (fun h => ?_)
      · refine z_sub [0, 1, 3] rfl ?_
        exact bR_hasCredit_34 C M ih V n a0 x1 x3 x2 h
      · refine z_aload_n C 0 dR_hasCredit_23 rfl rfl ?_
        refine z_getR C fl_R_36 dR_hasCredit_24 h (fun t4 h => ?_)
        refine z_iload_n C 3 dR_hasCredit_27 rfl rfl ?_
        refine z_iald C rfl dR_hasCredit_28 h (fun t5 h => ?_)
        refine z_bipush (v := 8) C dR_hasCredit_29 (by decide) ?_
        refine z_icmp_ge C 38 dR_hasCredit_31 (by decide) h (fun h => ?_) (fun h => ?_)
        · refine z_iconst (v := 0) C dR_hasCredit_38 (by decide) ?_
          refine z_sub [0, 1, 3] rfl ?_
          exact bR_hasCredit_39 C M ih V n a0 x1 x3 x2 (0 : Int32) h
        · refine z_sub [0, 1, 3] rfl ?_
          exact bR_hasCredit_34 C M ih V n a0 x1 x3 x2 h
def fR_hasCredit (V : zV) (n : Nat) (a0 : Nat) (x1 : Int32) : Option zR :=
    fR_hasCredit_4 zF V n a0 x1 (1 : Int32) (0 : Int32)
set_option maxHeartbeats 4000000 in
set_option maxRecDepth 100000 in
theorem bR_hasCredit {x : zX} {w : zR} (C : zC x prog_9_method_18_code "BarrierMarksModel" "hasCredit" 4 0 0 (some .boolean)) (M : zM x (zc w) (zs w)) : ∀ (V : zV) (n : Nat) (a0 : Nat) (x1 : Int32), fR_hasCredit V n a0 x1 = some w → zZ x 4 0 0 w V n 0 [(0, va_rf (some a0)), (1, .int x1)] [] := by
  intro V n a0 x1 h
  unfold fR_hasCredit at h
  refine z_iconst (v := 1) C dR_hasCredit_0 (by decide) ?_
  refine z_istore_n (lv' := [(2, .int (1 : Int32)), (0, va_rf (some a0)), (1, .int x1)]) (i := 2) C dR_hasCredit_1 rfl (by decide) rfl ?_
  refine z_iconst (v := 0) C dR_hasCredit_2 (by decide) ?_
  refine z_istore_n (lv' := [(3, .int (0 : Int32)), (2, .int (1 : Int32)), (0, va_rf (some a0)), (1, .int x1)]) (i := 3) C dR_hasCredit_3 rfl (by decide) rfl ?_
  refine z_sub [2, 3, 1, 0] rfl ?_
  exact bR_hasCredit_4 C M zF V n a0 x1 (1 : Int32) (0 : Int32) h
theorem mR_hasCredit {l : Launch} {D : va_G} {dA : Nat → ClassId} {V : zV} {n : Nat} (hl : l.stackTraces = false) {a0 : Nat} {x1 : Int32} {w : zR} (h : fR_hasCredit V n a0 x1 = some w) : z_Met l ⟨"BarrierMarksModel", "hasCredit", "(I)Z"⟩ prog_9_method_18_code 4 (some .boolean) 0 0 (zc w) (zs w) [.ref a0, .int x1] D dA V n w := by exact z_ofZ hl (by decide) (Nat.le_of_ble_eq_true rfl) (fun x C M => bR_hasCredit C M V n a0 x1 h)
/-! BarrierMarksModel.give(IIJ)V -/
def fR_give_75 (K3 : zV → Nat → Nat → Int32 → Int32 → Int64 → Int32 → Option zR) (V : zV) (n : Nat) (a0 : Nat) (x1 : Int32) (x2 : Int32) (x3 : Int64) (x5 : Int32) : Option zR :=
    K3 V n a0 x1 x2 x3 (x5 + 1)
set_option maxHeartbeats 4000000 in
set_option maxRecDepth 100000 in
theorem bR_give_75 {x : zX} {w : zR} {K3 : zV → Nat → Nat → Int32 → Int32 → Int64 → Int32 → Option zR} (C : zC x prog_9_method_19_code "BarrierMarksModel" "give" 6 0 0 none) (M : zM x (zc w) (zs w)) (hK3 : ∀ (V : zV) (n : Nat) (a0 : Nat) (x1 : Int32) (x2 : Int32) (x3 : Int64) (x5 : Int32), K3 V n a0 x1 x2 x3 x5 = some w → zZ x 6 0 0 w V n 3 [(0, va_rf (some a0)), (1, .int x1), (2, .int x2), (3, .long x3), (5, .int x5)] []) : ∀ (V : zV) (n : Nat) (a0 : Nat) (x1 : Int32) (x2 : Int32) (x3 : Int64) (x5 : Int32), fR_give_75 K3 V n a0 x1 x2 x3 x5 = some w → zZ x 6 0 0 w V n 75 [(0, va_rf (some a0)), (1, .int x1), (2, .int x2), (3, .long x3), (5, .int x5)] [] := by
  intro V n a0 x1 x2 x3 x5 h
  unfold fR_give_75 at h
  refine z_iinc (lv' := [(5, .int (x5 + 1)), (0, va_rf (some a0)), (1, .int x1), (2, .int x2), (3, .long x3)]) C 4 dR_give_75 rfl rfl (by decide) rfl ?_
  refine z_goto C 3 dR_give_78 (by decide) ?_
  refine z_sub [1, 2, 3, 4, 0] rfl ?_
  exact hK3 V n a0 x1 x2 x3 (x5 + 1) h
def fR_give_3 : Nat → zV → Nat → Nat → Int32 → Int32 → Int64 → Int32 → Option zR
  | 0 => fun _ _ _ _ _ _ _ => none
  | f9 + 1 => fun V n a0 x1 x2 x3 x5 =>
    (zgI V (some a0) [6] 7).bind fun t1 =>
    if t1 ≤ x5 then (
    zrV V n) else (
    (zgR V (some a0) [6] 8).bind fun t2 =>
    (zaI V t2 0 x5).bind fun t3 =>
    if t3 = x1 then (
    (zgR V (some a0) [6] 10).bind fun t4 =>
    (zgR V (some a0) [6] 12).bind fun t5 =>
    (zaI V t5 0 x5).bind fun t6 =>
    (zsI V t4 0 ((((16 : Int32) * x5) + t6)) x2).bind fun V =>
    (zgR V (some a0) [6] 11).bind fun t7 =>
    (zgR V (some a0) [6] 12).bind fun t8 =>
    (zaI V t8 0 x5).bind fun t9 =>
    (zsL V t7 1 ((((16 : Int32) * x5) + t9)) x3).bind fun V =>
    (zgR V (some a0) [6] 12).bind fun t10 =>
    (zaI V t10 0 x5).bind fun t11 =>
    (zsI V t10 0 x5 ((t11 + (1 : Int32)))).bind fun V =>
    fR_give_75 (fR_give_3 f9) V n a0 x1 x2 x3 x5) else (
    fR_give_75 (fR_give_3 f9) V n a0 x1 x2 x3 x5))
set_option maxHeartbeats 4000000 in
set_option maxRecDepth 100000 in
theorem bR_give_3 {x : zX} {w : zR} (C : zC x prog_9_method_19_code "BarrierMarksModel" "give" 6 0 0 none) (M : zM x (zc w) (zs w)) : ∀ (f9 : Nat) (V : zV) (n : Nat) (a0 : Nat) (x1 : Int32) (x2 : Int32) (x3 : Int64) (x5 : Int32), fR_give_3 f9 V n a0 x1 x2 x3 x5 = some w → zZ x 6 0 0 w V n 3 [(0, va_rf (some a0)), (1, .int x1), (2, .int x2), (3, .long x3), (5, .int x5)] [] := by
  intro f9
  induction f9 with
  | zero =>
    intro V n a0 x1 x2 x3 x5 h
    cases h
  | succ f9 ih =>
    intro V n a0 x1 x2 x3 x5 h
    unfold fR_give_3 at h
    refine z_iload C 4 dR_give_3 rfl ?_
    refine z_aload_n C 0 dR_give_5 rfl rfl ?_
    refine z_getI C fl_R_103 dR_give_6 h (fun t1 h => ?_)
    refine z_icmp_ge C 81 dR_give_9 (by decide) h (fun h => ?_) (fun h => ?_)
    · exact z_vret C M (Nat.zero_le _) (Nat.zero_le _) dR_give_81 h
    · refine z_aload_n C 0 dR_give_12 rfl rfl ?_
      refine z_getR C fl_R_24 dR_give_13 h (fun t2 h => ?_)
      refine z_iload C 4 dR_give_16 rfl ?_
      refine z_iald C rfl dR_give_18 h (fun t3 h => ?_)
      refine z_iload_n C 1 dR_give_19 rfl rfl ?_
      refine z_icmp_eq C 26 dR_give_20 (by decide) h (fun h => ?_) (fun h => ?_)
      · refine z_aload_n C 0 dR_give_26 rfl rfl ?_
        refine z_getR C fl_R_30 dR_give_27 h (fun t4 h => ?_)
        refine z_bipush (v := 16) C dR_give_30 (by decide) ?_
        refine z_iload C 4 dR_give_32 rfl ?_
        refine z_imul C dR_give_34 ?_
        refine z_aload_n C 0 dR_give_35 rfl rfl ?_
        refine z_getR C fl_R_36 dR_give_36 h (fun t5 h => ?_)
        refine z_iload C 4 dR_give_39 rfl ?_
        refine z_iald C rfl dR_give_41 h (fun t6 h => ?_)
        refine z_iadd C dR_give_42 ?_
        refine z_iload_n C 2 dR_give_43 rfl rfl ?_
        refine z_iast C rfl dR_give_44 h (fun V h => ?_)
        refine z_aload_n C 0 dR_give_45 rfl rfl ?_
        refine z_getR C fl_R_33 dR_give_46 h (fun t7 h => ?_)
        refine z_bipush (v := 16) C dR_give_49 (by decide) ?_
        refine z_iload C 4 dR_give_51 rfl ?_
        refine z_imul C dR_give_53 ?_
        refine z_aload_n C 0 dR_give_54 rfl rfl ?_
        refine z_getR C fl_R_36 dR_give_55 h (fun t8 h => ?_)
        refine z_iload C 4 dR_give_58 rfl ?_
        refine z_iald C rfl dR_give_60 h (fun t9 h => ?_)
        refine z_iadd C dR_give_61 ?_
        refine z_lload_n C 3 dR_give_62 rfl rfl ?_
        refine z_last C rfl dR_give_63 h (fun V h => ?_)
        refine z_aload_n C 0 dR_give_64 rfl rfl ?_
        refine z_getR C fl_R_36 dR_give_65 h (fun t10 h => ?_)
        refine z_iload C 4 dR_give_68 rfl ?_
        refine z_dup2_11 C dR_give_70 rfl (zrfcat _) ?_
        refine z_iald C rfl dR_give_71 h (fun t11 h => ?_)
        refine z_iconst (v := 1) C dR_give_72 (by decide) ?_
        refine z_iadd C dR_give_73 ?_
        refine z_iast C rfl dR_give_74 h (fun V h => ?_)
        exact bR_give_75 C M ih V n a0 x1 x2 x3 x5 h
      · refine z_goto C 75 dR_give_23 (by decide) ?_
        exact bR_give_75 C M ih V n a0 x1 x2 x3 x5 h
def fR_give (V : zV) (n : Nat) (a0 : Nat) (x1 : Int32) (x2 : Int32) (x3 : Int64) : Option zR :=
    fR_give_3 zF V n a0 x1 x2 x3 (0 : Int32)
set_option maxHeartbeats 4000000 in
set_option maxRecDepth 100000 in
theorem bR_give {x : zX} {w : zR} (C : zC x prog_9_method_19_code "BarrierMarksModel" "give" 6 0 0 none) (M : zM x (zc w) (zs w)) : ∀ (V : zV) (n : Nat) (a0 : Nat) (x1 : Int32) (x2 : Int32) (x3 : Int64), fR_give V n a0 x1 x2 x3 = some w → zZ x 6 0 0 w V n 0 [(0, va_rf (some a0)), (1, .int x1), (2, .int x2), (3, .long x3)] [] := by
  intro V n a0 x1 x2 x3 h
  unfold fR_give at h
  refine z_iconst (v := 0) C dR_give_0 (by decide) ?_
  refine z_istore (lv' := [(5, .int (0 : Int32)), (0, va_rf (some a0)), (1, .int x1), (2, .int x2), (3, .long x3)]) C dR_give_1 (by decide) rfl ?_
  refine z_sub [1, 2, 3, 4, 0] rfl ?_
  exact bR_give_3 C M zF V n a0 x1 x2 x3 (0 : Int32) h
theorem mR_give {l : Launch} {D : va_G} {dA : Nat → ClassId} {V : zV} {n : Nat} (hl : l.stackTraces = false) {a0 : Nat} {x1 : Int32} {x2 : Int32} {x3 : Int64} {w : zR} (h : fR_give V n a0 x1 x2 x3 = some w) : z_Met l ⟨"BarrierMarksModel", "give", "(IIJ)V"⟩ prog_9_method_19_code 6 none 0 0 (zc w) (zs w) [.ref a0, .int x1, .int x2, .long x3] D dA V n w := by exact z_ofZ hl (by decide) (Nat.le_of_ble_eq_true rfl) (fun x C M => bR_give C M V n a0 x1 x2 x3 h)
/-! BarrierMarksModel.barrierOf(I)I -/
def fR_barrierOf_55 (K2 : zV → Nat → Nat → Int32 → Int32 → Option zR) (V : zV) (n : Nat) (a0 : Nat) (x1 : Int32) (x2 : Int32) : Option zR :=
    K2 V n a0 x1 (x2 + 1)
set_option maxHeartbeats 4000000 in
set_option maxRecDepth 100000 in
theorem bR_barrierOf_55 {x : zX} {w : zR} {K2 : zV → Nat → Nat → Int32 → Int32 → Option zR} (C : zC x prog_9_method_20_code "BarrierMarksModel" "barrierOf" 3 0 0 (some .int)) (M : zM x (zc w) (zs w)) (hK2 : ∀ (V : zV) (n : Nat) (a0 : Nat) (x1 : Int32) (x2 : Int32), K2 V n a0 x1 x2 = some w → zZ x 3 0 0 w V n 2 [(0, va_rf (some a0)), (1, .int x1), (2, .int x2)] []) : ∀ (V : zV) (n : Nat) (a0 : Nat) (x1 : Int32) (x2 : Int32), fR_barrierOf_55 K2 V n a0 x1 x2 = some w → zZ x 3 0 0 w V n 55 [(0, va_rf (some a0)), (1, .int x1), (2, .int x2)] [] := by
  intro V n a0 x1 x2 h
  unfold fR_barrierOf_55 at h
  refine z_iinc (lv' := [(2, .int (x2 + 1)), (0, va_rf (some a0)), (1, .int x1)]) C 2 dR_barrierOf_55 rfl rfl (by decide) rfl ?_
  refine z_goto C 2 dR_barrierOf_58 (by decide) ?_
  refine z_sub [1, 2, 0] rfl ?_
  exact hK2 V n a0 x1 (x2 + 1) h
def fR_barrierOf_2 : Nat → zV → Nat → Nat → Int32 → Int32 → Option zR
  | 0 => fun _ _ _ _ _ => none
  | f9 + 1 => fun V n a0 x1 x2 =>
    (zgI V (some a0) [6] 19).bind fun t1 =>
    if t1 ≤ x2 then (
    zrI (-1 : Int32) V n) else (
    (zgR V (some a0) [6] 20).bind fun t2 =>
    (zaI V t2 0 x2).bind fun t3 =>
    if t3 = 0 then (
    (zgR V (some a0) [6] 22).bind fun t4 =>
    (zaI V t4 2 ((((16 : Int32) * x2) + x1))).bind fun t5 =>
    if t5 = 0 then (
    (zgR V (some a0) [6] 21).bind fun t6 =>
    (zaI V t6 0 ((((16 : Int32) * x2) + x1))).bind fun t7 =>
    (zgR V (some a0) [6] 16).bind fun t8 =>
    (zaI V t8 0 x1).bind fun t9 =>
    if t7 = t9 then (
    zrI x2 V n) else (
    fR_barrierOf_55 (fR_barrierOf_2 f9) V n a0 x1 x2)) else (
    fR_barrierOf_55 (fR_barrierOf_2 f9) V n a0 x1 x2)) else (
    fR_barrierOf_55 (fR_barrierOf_2 f9) V n a0 x1 x2))
set_option maxHeartbeats 4000000 in
set_option maxRecDepth 100000 in
theorem bR_barrierOf_2 {x : zX} {w : zR} (C : zC x prog_9_method_20_code "BarrierMarksModel" "barrierOf" 3 0 0 (some .int)) (M : zM x (zc w) (zs w)) : ∀ (f9 : Nat) (V : zV) (n : Nat) (a0 : Nat) (x1 : Int32) (x2 : Int32), fR_barrierOf_2 f9 V n a0 x1 x2 = some w → zZ x 3 0 0 w V n 2 [(0, va_rf (some a0)), (1, .int x1), (2, .int x2)] [] := by
  intro f9
  induction f9 with
  | zero =>
    intro V n a0 x1 x2 h
    cases h
  | succ f9 ih =>
    intro V n a0 x1 x2 h
    unfold fR_barrierOf_2 at h
    refine z_iload_n C 2 dR_barrierOf_2 rfl rfl ?_
    refine z_aload_n C 0 dR_barrierOf_3 rfl rfl ?_
    refine z_getI C fl_R_106 dR_barrierOf_4 h (fun t1 h => ?_)
    refine z_icmp_ge C 61 dR_barrierOf_7 (by decide) h (fun h => ?_) (fun h => ?_)
    · refine z_iconst (v := (-1)) C dR_barrierOf_61 (by decide) ?_
      exact z_iret C M (Nat.zero_le _) (Nat.zero_le _) dR_barrierOf_62 h
    · refine z_aload_n C 0 dR_barrierOf_10 rfl rfl ?_
      refine z_getR C fl_R_57 dR_barrierOf_11 h (fun t2 h => ?_)
      refine z_iload_n C 2 dR_barrierOf_14 rfl rfl ?_
      refine z_iald C rfl dR_barrierOf_15 h (fun t3 h => ?_)
      refine z_if_ne C 55 dR_barrierOf_16 (by decide) h (fun h => ?_) (fun h => ?_)
      · exact bR_barrierOf_55 C M ih V n a0 x1 x2 h
      · refine z_aload_n C 0 dR_barrierOf_19 rfl rfl ?_
        refine z_getR C fl_R_63 dR_barrierOf_20 h (fun t4 h => ?_)
        refine z_bipush (v := 16) C dR_barrierOf_23 (by decide) ?_
        refine z_iload_n C 2 dR_barrierOf_25 rfl rfl ?_
        refine z_imul C dR_barrierOf_26 ?_
        refine z_iload_n C 1 dR_barrierOf_27 rfl rfl ?_
        refine z_iadd C dR_barrierOf_28 ?_
        refine z_zald C rfl dR_barrierOf_29 h (fun t5 h => ?_)
        refine z_if_ne C 55 dR_barrierOf_30 (by decide) h (fun h => ?_) (fun h => ?_)
        · exact bR_barrierOf_55 C M ih V n a0 x1 x2 h
        · refine z_aload_n C 0 dR_barrierOf_33 rfl rfl ?_
          refine z_getR C fl_R_60 dR_barrierOf_34 h (fun t6 h => ?_)
          refine z_bipush (v := 16) C dR_barrierOf_37 (by decide) ?_
          refine z_iload_n C 2 dR_barrierOf_39 rfl rfl ?_
          refine z_imul C dR_barrierOf_40 ?_
          refine z_iload_n C 1 dR_barrierOf_41 rfl rfl ?_
          refine z_iadd C dR_barrierOf_42 ?_
          refine z_iald C rfl dR_barrierOf_43 h (fun t7 h => ?_)
          refine z_aload_n C 0 dR_barrierOf_44 rfl rfl ?_
          refine z_getR C fl_R_48 dR_barrierOf_45 h (fun t8 h => ?_)
          refine z_iload_n C 1 dR_barrierOf_48 rfl rfl ?_
          refine z_iald C rfl dR_barrierOf_49 h (fun t9 h => ?_)
          refine z_icmp_ne C 55 dR_barrierOf_50 (by decide) h (fun h => ?_) (fun h => ?_)
          · exact bR_barrierOf_55 C M ih V n a0 x1 x2 h
          · refine z_iload_n C 2 dR_barrierOf_53 rfl rfl ?_
            exact z_iret C M (Nat.zero_le _) (Nat.zero_le _) dR_barrierOf_54 h
def fR_barrierOf (V : zV) (n : Nat) (a0 : Nat) (x1 : Int32) : Option zR :=
    fR_barrierOf_2 zF V n a0 x1 (0 : Int32)
set_option maxHeartbeats 4000000 in
set_option maxRecDepth 100000 in
theorem bR_barrierOf {x : zX} {w : zR} (C : zC x prog_9_method_20_code "BarrierMarksModel" "barrierOf" 3 0 0 (some .int)) (M : zM x (zc w) (zs w)) : ∀ (V : zV) (n : Nat) (a0 : Nat) (x1 : Int32), fR_barrierOf V n a0 x1 = some w → zZ x 3 0 0 w V n 0 [(0, va_rf (some a0)), (1, .int x1)] [] := by
  intro V n a0 x1 h
  unfold fR_barrierOf at h
  refine z_iconst (v := 0) C dR_barrierOf_0 (by decide) ?_
  refine z_istore_n (lv' := [(2, .int (0 : Int32)), (0, va_rf (some a0)), (1, .int x1)]) (i := 2) C dR_barrierOf_1 rfl (by decide) rfl ?_
  refine z_sub [1, 2, 0] rfl ?_
  exact bR_barrierOf_2 C M zF V n a0 x1 (0 : Int32) h
theorem mR_barrierOf {l : Launch} {D : va_G} {dA : Nat → ClassId} {V : zV} {n : Nat} (hl : l.stackTraces = false) {a0 : Nat} {x1 : Int32} {w : zR} (h : fR_barrierOf V n a0 x1 = some w) : z_Met l ⟨"BarrierMarksModel", "barrierOf", "(I)I"⟩ prog_9_method_20_code 3 (some .int) 0 0 (zc w) (zs w) [.ref a0, .int x1] D dA V n w := by exact z_ofZ hl (by decide) (Nat.le_of_ble_eq_true rfl) (fun x C M => bR_barrierOf C M V n a0 x1 h)
/-! BarrierMarksModel.next(I)I -/
def fR_next (V : zV) (n : Nat) (a0 : Nat) (x1 : Int32) : Option zR :=
    (zgR V (some a0) [6] 17).bind fun t1 =>
    (zaI V t1 2 x1).bind fun t2 =>
    if t2 = 0 then (
    (z_obj V (some a0) [6]).bind fun o => zcI (fR_isSource V n o.1 x1) fun t3 V n =>
    if t3 = 0 then (
    (zgR V (some a0) [6] 12).bind fun t11 =>
    (zaI V t11 0 x1).bind fun t12 =>
    if t12 = 0 then (
    zrI (-1 : Int32) V n) else (
    (zgR V (some a0) [6] 10).bind fun t13 =>
    (zaI V t13 0 (((16 : Int32) * x1))).bind fun t14 =>
    zrI t14 V n)) else (
    (z_obj V (some a0) [6]).bind fun o => zcI (fR_barrierOf V n o.1 x1) fun t4 V n =>
    if t4 = (-1 : Int32) then (
    (zgR V (some a0) [6] 16).bind fun t5 =>
    (zaI V t5 0 x1).bind fun t6 =>
    (zgR V (some a0) [6] 14).bind fun t7 =>
    (zaI V t7 0 x1).bind fun t8 =>
    if t8 ≤ t6 then (
    (zgR V (some a0) [6] 15).bind fun t9 =>
    (zaI V t9 2 x1).bind fun t10 =>
    if t10 = 0 then (
    zrI (-1 : Int32) V n) else (
    zrI (2 : Int32) V n)) else (
    zrI (0 : Int32) V n)) else (
    zrI (1 : Int32) V n))) else (
    zrI (-1 : Int32) V n)
set_option maxHeartbeats 4000000 in
set_option maxRecDepth 100000 in
theorem bR_next {x : zX} {w : zR} (C : zC x prog_9_method_21_code "BarrierMarksModel" "next" 2 1 22 (some .int)) (M : zM x (zc w) (zs w)) : ∀ (V : zV) (n : Nat) (a0 : Nat) (x1 : Int32), fR_next V n a0 x1 = some w → zZ x 2 0 0 w V n 0 [(0, va_rf (some a0)), (1, .int x1)] [] := by
  intro V n a0 x1 h
  unfold fR_next at h
  refine z_aload_n C 0 dR_next_0 rfl rfl ?_
  refine z_getR C fl_R_51 dR_next_1 h (fun t1 h => ?_)
  refine z_iload_n C 1 dR_next_4 rfl rfl ?_
  refine z_zald C rfl dR_next_5 h (fun t2 h => ?_)
  refine z_if_eq C 11 dR_next_6 (by decide) h (fun h => ?_) (fun h => ?_)
  · refine z_aload_n C 0 dR_next_11 rfl rfl ?_
    refine z_iload_n C 1 dR_next_12 rfl rfl ?_
    refine z_vPI (ci := 6) C M zRmP [.int x1] cv_R_127 rfl (by decide) (by decide) rfl rfl (Nat.zero_le _) dR_next_13 (fun b => fR_isSource V n b x1) h (fun b w1 e1 l D dA hl => mR_isSource hl e1) (fun t3 V n h => ?_)
    refine z_if_ne C 42 dR_next_16 (by decide) h (fun h => ?_) (fun h => ?_)
    · refine z_aload_n C 0 dR_next_42 rfl rfl ?_
      refine z_iload_n C 1 dR_next_43 rfl rfl ?_
      refine z_vPI (ci := 6) C M zRmP [.int x1] cv_R_147 rfl (by decide) (by decide) rfl rfl (Nat.zero_le _) dR_next_44 (fun b => fR_barrierOf V n b x1) h (fun b w1 e1 l D dA hl => mR_barrierOf hl e1) (fun t4 V n h => ?_)
      refine z_iconst (v := (-1)) C dR_next_47 (by decide) ?_
      refine z_icmp_eq C 53 dR_next_48 (by decide) h (fun h => ?_) (fun h => ?_)
      · refine z_aload_n C 0 dR_next_53 rfl rfl ?_
        refine z_getR C fl_R_48 dR_next_54 h (fun t5 h => ?_)
        refine z_iload_n C 1 dR_next_57 rfl rfl ?_
        refine z_iald C rfl dR_next_58 h (fun t6 h => ?_)
        refine z_aload_n C 0 dR_next_59 rfl rfl ?_
        refine z_getR C fl_R_42 dR_next_60 h (fun t7 h => ?_)
        refine z_iload_n C 1 dR_next_63 rfl rfl ?_
        refine z_iald C rfl dR_next_64 h (fun t8 h => ?_)
        refine z_icmp_ge C 72 dR_next_65 (by decide) h (fun h => ?_) (fun h => ?_)
        · refine z_aload_n C 0 dR_next_72 rfl rfl ?_
          refine z_getR C fl_R_45 dR_next_73 h (fun t9 h => ?_)
          refine z_iload_n C 1 dR_next_76 rfl rfl ?_
          refine z_zald C rfl dR_next_77 h (fun t10 h => ?_)
          refine z_if_eq C 85 dR_next_78 (by decide) h (fun h => ?_) (fun h => ?_)
          · refine z_iconst (v := (-1)) C dR_next_85 (by decide) ?_
            exact z_iret C M (Nat.zero_le _) (Nat.zero_le _) dR_next_86 h
          · refine z_iconst (v := 2) C dR_next_81 (by decide) ?_
            refine z_goto C 86 dR_next_82 (by decide) ?_
            exact z_iret C M (Nat.zero_le _) (Nat.zero_le _) dR_next_86 h
        · refine z_iconst (v := 0) C dR_next_68 (by decide) ?_
          refine z_goto C 86 dR_next_69 (by decide) ?_
          exact z_iret C M (Nat.zero_le _) (Nat.zero_le _) dR_next_86 h
      · refine z_iconst (v := 1) C dR_next_51 (by decide) ?_
        exact z_iret C M (Nat.zero_le _) (Nat.zero_le _) dR_next_52 h
    · refine z_aload_n C 0 dR_next_19 rfl rfl ?_
      refine z_getR C fl_R_36 dR_next_20 h (fun t11 h => ?_)
      refine z_iload_n C 1 dR_next_23 rfl rfl ?_
      refine z_iald C rfl dR_next_24 h (fun t12 h => ?_)
      refine z_if_ne C 32 dR_next_25 (by decide) h (fun h => ?_) (fun h => ?_)
      · refine z_aload_n C 0 dR_next_32 rfl rfl ?_
        refine z_getR C fl_R_30 dR_next_33 h (fun t13 h => ?_)
        refine z_bipush (v := 16) C dR_next_36 (by decide) ?_
        refine z_iload_n C 1 dR_next_38 rfl rfl ?_
        refine z_imul C dR_next_39 ?_
        refine z_iald C rfl dR_next_40 h (fun t14 h => ?_)
        exact z_iret C M (Nat.zero_le _) (Nat.zero_le _) dR_next_41 h
      · refine z_iconst (v := (-1)) C dR_next_28 (by decide) ?_
        refine z_goto C 41 dR_next_29 (by decide) ?_
        exact z_iret C M (Nat.zero_le _) (Nat.zero_le _) dR_next_41 h
  · refine z_iconst (v := (-1)) C dR_next_9 (by decide) ?_
    exact z_iret C M (Nat.zero_le _) (Nat.zero_le _) dR_next_10 h
theorem mR_next {l : Launch} {D : va_G} {dA : Nat → ClassId} {V : zV} {n : Nat} (hl : l.stackTraces = false) {a0 : Nat} {x1 : Int32} {w : zR} (h : fR_next V n a0 x1 = some w) : z_Met l ⟨"BarrierMarksModel", "next", "(I)I"⟩ prog_9_method_21_code 2 (some .int) 1 22 (zc w) (zs w) [.ref a0, .int x1] D dA V n w := by exact z_ofZ hl (by decide) (Nat.le_of_ble_eq_true rfl) (fun x C M => bR_next C M V n a0 x1 h)
/-! BarrierMarksModel.take(II)I -/
def fR_take_163 (V : zV) (n : Nat) (a0 : Nat) (x1 : Int32) (x2 : Int32) (x3 : Int32) (x4 : Int32) (x5 : Int64) : Option zR :=
    if x3 = 0 then (
    (zgR V (some a0) [6] 4).bind fun t3 =>
    (zaI V t3 0 x1).bind fun t4 =>
    (zsI V t3 0 x1 ((t4 + (1 : Int32)))).bind fun V =>
    (zgR V (some a0) [6] 3).bind fun t5 =>
    (zaL V t5 1 x1).bind fun t6 =>
    (zsL V t5 1 x1 (t6 + x5)).bind fun V =>
    (z_obj V (some a0) [6]).bind fun o => zcV (fR_give V n o.1 x1 (0 : Int32) ((((3 : Int64) * x5) + x1.toInt64))) fun V n =>
    zrI ((x3 + (1 : Int32))) V n) else (
    if x3 = (1 : Int32) then (
    (zgR V (some a0) [6] 18).bind fun t2 =>
    (zsI V t2 0 x2 x4).bind fun V =>
    zrI ((x3 + (1 : Int32))) V n) else (
    (zgR V (some a0) [6] 17).bind fun t1 =>
    (zsZ V t1 2 x2 (1 : Int32)).bind fun V =>
    zrI ((x3 + (1 : Int32))) V n))
set_option maxHeartbeats 4000000 in
set_option maxRecDepth 100000 in
theorem bR_take_163 {x : zX} {w : zR} (C : zC x prog_9_method_25_code "BarrierMarksModel" "take" 7 2 43 (some .int)) (M : zM x (zc w) (zs w)) : ∀ (V : zV) (n : Nat) (a0 : Nat) (x1 : Int32) (x2 : Int32) (x3 : Int32) (x4 : Int32) (x5 : Int64), fR_take_163 V n a0 x1 x2 x3 x4 x5 = some w → zZ x 7 0 0 w V n 163 [(0, va_rf (some a0)), (1, .int x1), (2, .int x2), (3, .int x3), (4, .int x4), (5, .long x5)] [] := by
  intro V n a0 x1 x2 x3 x4 x5 h
  unfold fR_take_163 at h
  refine z_iload_n C 3 dR_take_163 rfl rfl ?_
  refine z_if_ne C 206 dR_take_164 (by decide) h (fun h => ?_) (fun h => ?_)
  · refine z_iload_n C 3 dR_take_206 rfl rfl ?_
    refine z_iconst (v := 1) C dR_take_207 (by decide) ?_
    refine z_icmp_ne C 222 dR_take_208 (by decide) h (fun h => ?_) (fun h => ?_)
    · refine z_aload_n C 0 dR_take_222 rfl rfl ?_
      refine z_getR C fl_R_51 dR_take_223 h (fun t1 h => ?_)
      refine z_iload_n C 2 dR_take_226 rfl rfl ?_
      refine z_iconst (v := 1) C dR_take_227 (by decide) ?_
      refine z_zast C rfl dR_take_228 h (fun V h => ?_)
      refine z_iload_n C 3 dR_take_229 rfl rfl ?_
      refine z_iconst (v := 1) C dR_take_230 (by decide) ?_
      refine z_iadd C dR_take_231 ?_
      exact z_iret C M (Nat.zero_le _) (Nat.zero_le _) dR_take_232 h
    · refine z_aload_n C 0 dR_take_211 rfl rfl ?_
      refine z_getR C fl_R_54 dR_take_212 h (fun t2 h => ?_)
      refine z_iload_n C 2 dR_take_215 rfl rfl ?_
      refine z_iload C 4 dR_take_216 rfl ?_
      refine z_iast C rfl dR_take_218 h (fun V h => ?_)
      refine z_goto C 229 dR_take_219 (by decide) ?_
      refine z_iload_n C 3 dR_take_229 rfl rfl ?_
      refine z_iconst (v := 1) C dR_take_230 (by decide) ?_
      refine z_iadd C dR_take_231 ?_
      exact z_iret C M (Nat.zero_le _) (Nat.zero_le _) dR_take_232 h
  · refine z_aload_n C 0 dR_take_167 rfl rfl ?_
    refine z_getR C fl_R_13 dR_take_168 h (fun t3 h => ?_)
    refine z_iload_n C 1 dR_take_171 rfl rfl ?_
    refine z_dup2_11 C dR_take_172 rfl (zrfcat _) ?_
    refine z_iald C rfl dR_take_173 h (fun t4 h => ?_)
    refine z_iconst (v := 1) C dR_take_174 (by decide) ?_
    refine z_iadd C dR_take_175 ?_
    refine z_iast C rfl dR_take_176 h (fun V h => ?_)
    refine z_aload_n C 0 dR_take_177 rfl rfl ?_
    refine z_getR C fl_R_7 dR_take_178 h (fun t5 h => ?_)
    refine z_iload_n C 1 dR_take_181 rfl rfl ?_
    refine z_dup2_11 C dR_take_182 rfl (zrfcat _) ?_
    refine z_lald C rfl dR_take_183 h (fun t6 h => ?_)
    refine z_lload C 5 dR_take_184 rfl ?_
    refine z_ladd C dR_take_186 ?_
    refine z_last C rfl dR_take_187 h (fun V h => ?_)
    refine z_aload_n C 0 dR_take_188 rfl rfl ?_
    refine z_iload_n C 1 dR_take_189 rfl rfl ?_
    refine z_iconst (v := 0) C dR_take_190 (by decide) ?_
    refine z_ldc2 (v := 3) C dR_take_191 kl_R_176 ?_
    refine z_lload C 5 dR_take_194 rfl ?_
    refine z_lmul C dR_take_196 ?_
    refine z_iload_n C 1 dR_take_197 rfl rfl ?_
    refine z_i2l C dR_take_198 ?_
    refine z_ladd C dR_take_199 ?_
    refine z_vPV (ci := 6) C M zRmP [.int x1, .int (0 : Int32), .long ((((3 : Int64) * x5) + x1.toInt64))] cv_R_165 rfl (by decide) (by decide) rfl rfl (Nat.zero_le _) dR_take_200 (fun b => fR_give V n b x1 (0 : Int32) ((((3 : Int64) * x5) + x1.toInt64))) h (fun b w1 e1 l D dA hl => mR_give hl e1) (fun V n h => ?_)
    refine z_goto C 229 dR_take_203 (by decide) ?_
    refine z_iload_n C 3 dR_take_229 rfl rfl ?_
    refine z_iconst (v := 1) C dR_take_230 (by decide) ?_
    refine z_iadd C dR_take_231 ?_
    exact z_iret C M (Nat.zero_le _) (Nat.zero_le _) dR_take_232 h
def fR_take_109 (V : zV) (n : Nat) (a0 : Nat) (x1 : Int32) (x2 : Int32) (x3 : Int32) (x4 : Int32) (s0 : Int64) : Option zR :=
    (z_obj V (some a0) [6]).bind fun o => zcI (fR_isSource V n o.1 x2) fun t1 V n =>
    if t1 = 0 then (
    (z_obj V (some a0) [6]).bind fun o => zcV (fR_gone V n o.1 x2 (0 : Int32)) fun V n =>
    fR_take_163 V n a0 x1 x2 x3 x4 s0) else (
    if x3 = 0 then (
    (zgR V (some a0) [6] 16).bind fun t3 =>
    (zaI V t3 0 x2).bind fun t4 =>
    (zsI V t3 0 x2 ((t4 + (1 : Int32)))).bind fun V =>
    fR_take_163 V n a0 x1 x2 x3 x4 s0) else (
    if x3 = (1 : Int32) then (
    (zgR V (some a0) [6] 22).bind fun t2 =>
    (zsZ V t2 2 ((((16 : Int32) * x4) + x2)) (1 : Int32)).bind fun V =>
    fR_take_163 V n a0 x1 x2 x3 x4 s0) else (
    fR_take_163 V n a0 x1 x2 x3 x4 s0)))
set_option maxHeartbeats 4000000 in
set_option maxRecDepth 100000 in
theorem bR_take_109 {x : zX} {w : zR} (C : zC x prog_9_method_25_code "BarrierMarksModel" "take" 7 2 43 (some .int)) (M : zM x (zc w) (zs w)) : ∀ (V : zV) (n : Nat) (a0 : Nat) (x1 : Int32) (x2 : Int32) (x3 : Int32) (x4 : Int32) (s0 : Int64), fR_take_109 V n a0 x1 x2 x3 x4 s0 = some w → zZ x 7 0 0 w V n 109 [(0, va_rf (some a0)), (1, .int x1), (2, .int x2), (3, .int x3), (4, .int x4)] [.long s0] := by
  intro V n a0 x1 x2 x3 x4 s0 h
  unfold fR_take_109 at h
  refine z_lstore (lv' := [(5, .long s0), (0, va_rf (some a0)), (1, .int x1), (2, .int x2), (3, .int x3), (4, .int x4)]) C dR_take_109 (by decide) rfl ?_
  refine z_aload_n C 1 dR_take_111 rfl rfl ?_
  refine z_iload_n C 3 dR_take_112 rfl rfl ?_
  refine z_vPI (ci := 6) C M zRmP [.int x2] cv_R_127 rfl (by decide) (by decide) rfl rfl (Nat.zero_le _) dR_take_113 (fun b => fR_isSource V n b x2) h (fun b w1 e1 l D dA hl => mR_isSource hl e1) (fun t1 V n h => ?_)
  refine z_if_ne C 128 dR_take_116 (by decide) h (fun h => ?_) (fun h => ?_)
  · refine z_iload_n C 4 dR_take_128 rfl rfl ?_
    refine z_if_ne C 145 dR_take_129 (by decide) h (fun h => ?_) (fun h => ?_)
    · refine z_iload_n C 4 dR_take_145 rfl rfl ?_
      refine z_iconst (v := 1) C dR_take_146 (by decide) ?_
      refine z_icmp_ne C 163 dR_take_147 (by decide) h (fun h => ?_) (fun h => ?_)
      · refine z_sub [1, 2, 3, 4, 5, 0] rfl ?_
        exact bR_take_163 C M V n a0 x1 x2 x3 x4 s0 h
      · refine z_aload_n C 1 dR_take_150 rfl rfl ?_
        refine z_getR C fl_R_63 dR_take_151 h (fun t2 h => ?_)
        refine z_bipush (v := 16) C dR_take_154 (by decide) ?_
        refine z_iload C 5 dR_take_156 rfl ?_
        refine z_imul C dR_take_158 ?_
        refine z_iload_n C 3 dR_take_159 rfl rfl ?_
        refine z_iadd C dR_take_160 ?_
        refine z_iconst (v := 1) C dR_take_161 (by decide) ?_
        refine z_zast C rfl dR_take_162 h (fun V h => ?_)
        refine z_sub [1, 2, 3, 4, 5, 0] rfl ?_
        exact bR_take_163 C M V n a0 x1 x2 x3 x4 s0 h
    · refine z_aload_n C 1 dR_take_132 rfl rfl ?_
      refine z_getR C fl_R_48 dR_take_133 h (fun t3 h => ?_)
      refine z_iload_n C 3 dR_take_136 rfl rfl ?_
      refine z_dup2_11 C dR_take_137 rfl (zrfcat _) ?_
      refine z_iald C rfl dR_take_138 h (fun t4 h => ?_)
      refine z_iconst (v := 1) C dR_take_139 (by decide) ?_
      refine z_iadd C dR_take_140 ?_
      refine z_iast C rfl dR_take_141 h (fun V h => ?_)
      refine z_goto C 163 dR_take_142 (by decide) ?_
      refine z_sub [1, 2, 3, 4, 5, 0] rfl ?_
      exact bR_take_163 C M V n a0 x1 x2 x3 x4 s0 h
  · refine z_aload_n C 1 dR_take_119 rfl rfl ?_
    refine z_iload_n C 3 dR_take_120 rfl rfl ?_
    refine z_iconst (v := 0) C dR_take_121 (by decide) ?_
    refine z_vPV (ci := 6) C M zRmP [.int x2, .int (0 : Int32)] cv_R_144 rfl (by decide) (by decide) rfl rfl (Nat.zero_le _) dR_take_122 (fun b => fR_gone V n b x2 (0 : Int32)) h (fun b w1 e1 l D dA hl => mR_gone hl e1) (fun V n h => ?_)
    refine z_goto C 163 dR_take_125 (by decide) ?_
    refine z_sub [1, 2, 3, 4, 5, 0] rfl ?_
    exact bR_take_163 C M V n a0 x1 x2 x3 x4 s0 h
def fR_take_62 (V : zV) (n : Nat) (a0 : Nat) (x1 : Int32) (x2 : Int32) (x3 : Int32) (s0 : Int32) : Option zR :=
    if x3 = 0 then (
    (z_obj V (some a0) [6]).bind fun o => zcI (fR_isSource V n o.1 x2) fun t1 V n =>
    if t1 = 0 then (
    (zgR V (some a0) [6] 11).bind fun t2 =>
    (zaL V t2 1 (((16 : Int32) * x2))).bind fun t3 =>
    fR_take_109 V n a0 x1 x2 x3 s0 t3) else (
    (zgR V (some a0) [6] 13).bind fun t4 =>
    (zgR V (some a0) [6] 16).bind fun t5 =>
    (zaI V t5 0 x2).bind fun t6 =>
    (zaL V t4 1 ((((200 : Int32) * x2) + t6))).bind fun t7 =>
    fR_take_109 V n a0 x1 x2 x3 s0 t7)) else (
    fR_take_109 V n a0 x1 x2 x3 s0 (0 : Int64))
set_option maxHeartbeats 4000000 in
set_option maxRecDepth 100000 in
theorem bR_take_62 {x : zX} {w : zR} (C : zC x prog_9_method_25_code "BarrierMarksModel" "take" 7 2 43 (some .int)) (M : zM x (zc w) (zs w)) : ∀ (V : zV) (n : Nat) (a0 : Nat) (x1 : Int32) (x2 : Int32) (x3 : Int32) (s0 : Int32), fR_take_62 V n a0 x1 x2 x3 s0 = some w → zZ x 7 0 0 w V n 62 [(0, va_rf (some a0)), (1, .int x1), (2, .int x2), (3, .int x3)] [.int s0] := by
  intro V n a0 x1 x2 x3 s0 h
  unfold fR_take_62 at h
  refine z_istore (lv' := [(4, .int s0), (0, va_rf (some a0)), (1, .int x1), (2, .int x2), (3, .int x3)]) C dR_take_62 (by decide) rfl ?_
  refine z_iload_n C 4 dR_take_64 rfl rfl ?_
  refine z_if_eq C 72 dR_take_65 (by decide) h (fun h => ?_) (fun h => ?_)
  · refine z_aload_n C 1 dR_take_72 rfl rfl ?_
    refine z_iload_n C 3 dR_take_73 rfl rfl ?_
    refine z_vPI (ci := 6) C M zRmP [.int x2] cv_R_127 rfl (by decide) (by decide) rfl rfl (Nat.zero_le _) dR_take_74 (fun b => fR_isSource V n b x2) h (fun b w1 e1 l D dA hl => mR_isSource hl e1) (fun t1 V n h => ?_)
    refine z_if_eq C 100 dR_take_77 (by decide) h (fun h => ?_) (fun h => ?_)
    · refine z_aload_n C 1 dR_take_100 rfl rfl ?_
      refine z_getR C fl_R_33 dR_take_101 h (fun t2 h => ?_)
      refine z_bipush (v := 16) C dR_take_104 (by decide) ?_
      refine z_iload_n C 3 dR_take_106 rfl rfl ?_
      refine z_imul C dR_take_107 ?_
      refine z_lald C rfl dR_take_108 h (fun t3 h => ?_)
      refine z_sub [1, 2, 3, 4, 0] rfl ?_
      exact bR_take_109 C M V n a0 x1 x2 x3 s0 t3 h
    · refine z_aload_n C 1 dR_take_80 rfl rfl ?_
      refine z_getR C fl_R_39 dR_take_81 h (fun t4 h => ?_)
      refine z_sipush (v := 200) C dR_take_84 (by decide) ?_
      refine z_iload_n C 3 dR_take_87 rfl rfl ?_
      refine z_imul C dR_take_88 ?_
      refine z_aload_n C 1 dR_take_89 rfl rfl ?_
      refine z_getR C fl_R_48 dR_take_90 h (fun t5 h => ?_)
      refine z_iload_n C 3 dR_take_93 rfl rfl ?_
      refine z_iald C rfl dR_take_94 h (fun t6 h => ?_)
      refine z_iadd C dR_take_95 ?_
      refine z_lald C rfl dR_take_96 h (fun t7 h => ?_)
      refine z_goto C 109 dR_take_97 (by decide) ?_
      refine z_sub [1, 2, 3, 4, 0] rfl ?_
      exact bR_take_109 C M V n a0 x1 x2 x3 s0 t7 h
  · refine z_lconst (v := 0) C dR_take_68 (by decide) ?_
    refine z_goto C 109 dR_take_69 (by decide) ?_
    refine z_sub [1, 2, 3, 4, 0] rfl ?_
    exact bR_take_109 C M V n a0 x1 x2 x3 s0 (0 : Int64) h
def fR_take_20 (V : zV) (n : Nat) (a0 : Nat) (x1 : Int32) (x2 : Int32) (x3 : Int32) : Option zR :=
    (zgR V (some a0) [6] 6).bind fun t1 =>
    (zsI V t1 0 x1 x2).bind fun V =>
    if x3 = (1 : Int32) then (
    (z_obj V (some a0) [6]).bind fun o => zcI (fR_isSource V n o.1 x2) fun t2 V n =>
    if t2 = 0 then (
    (zgR V (some a0) [6] 11).bind fun t3 =>
    (zaL V t3 1 (((16 : Int32) * x2))).bind fun t4 =>
    fR_take_62 V n a0 x1 x2 x3 t4.toInt32) else (
    (z_obj V (some a0) [6]).bind fun o => zcI (fR_barrierOf V n o.1 x2) fun t5 V n =>
    fR_take_62 V n a0 x1 x2 x3 t5)) else (
    fR_take_62 V n a0 x1 x2 x3 (-1 : Int32))
set_option maxHeartbeats 4000000 in
set_option maxRecDepth 100000 in
theorem bR_take_20 {x : zX} {w : zR} (C : zC x prog_9_method_25_code "BarrierMarksModel" "take" 7 2 43 (some .int)) (M : zM x (zc w) (zs w)) : ∀ (V : zV) (n : Nat) (a0 : Nat) (x1 : Int32) (x2 : Int32) (x3 : Int32), fR_take_20 V n a0 x1 x2 x3 = some w → zZ x 7 0 0 w V n 20 [(0, va_rf (some a0)), (1, .int x1), (2, .int x2), (3, .int x3)] [] := by
  intro V n a0 x1 x2 x3 h
  unfold fR_take_20 at h
  refine z_aload_n C 0 dR_take_20 rfl rfl ?_
  refine z_getR C fl_R_21 dR_take_21 h (fun t1 h => ?_)
  refine z_iload_n C 1 dR_take_24 rfl rfl ?_
  refine z_iload_n C 2 dR_take_25 rfl rfl ?_
  refine z_iast C rfl dR_take_26 h (fun V h => ?_)
  refine z_iload_n C 3 dR_take_27 rfl rfl ?_
  refine z_iconst (v := 1) C dR_take_28 (by decide) ?_
  refine z_icmp_eq C 36 dR_take_29 (by decide) h (fun h => ?_) (fun h => ?_)
  · refine z_aload_n C 0 dR_take_36 rfl rfl ?_
    refine z_iload_n C 2 dR_take_37 rfl rfl ?_
    refine z_vPI (ci := 6) C M zRmP [.int x2] cv_R_127 rfl (by decide) (by decide) rfl rfl (Nat.zero_le _) dR_take_38 (fun b => fR_isSource V n b x2) h (fun b w1 e1 l D dA hl => mR_isSource hl e1) (fun t2 V n h => ?_)
    refine z_if_eq C 52 dR_take_41 (by decide) h (fun h => ?_) (fun h => ?_)
    · refine z_aload_n C 0 dR_take_52 rfl rfl ?_
      refine z_getR C fl_R_33 dR_take_53 h (fun t3 h => ?_)
      refine z_bipush (v := 16) C dR_take_56 (by decide) ?_
      refine z_iload_n C 2 dR_take_58 rfl rfl ?_
      refine z_imul C dR_take_59 ?_
      refine z_lald C rfl dR_take_60 h (fun t4 h => ?_)
      refine z_l2i C dR_take_61 ?_
      exact bR_take_62 C M V n a0 x1 x2 x3 t4.toInt32 h
    · refine z_aload_n C 0 dR_take_44 rfl rfl ?_
      refine z_iload_n C 2 dR_take_45 rfl rfl ?_
      refine z_vPI (ci := 6) C M zRmP [.int x2] cv_R_147 rfl (by decide) (by decide) rfl rfl (Nat.zero_le _) dR_take_46 (fun b => fR_barrierOf V n b x2) h (fun b w1 e1 l D dA hl => mR_barrierOf hl e1) (fun t5 V n h => ?_)
      refine z_goto C 62 dR_take_49 (by decide) ?_
      exact bR_take_62 C M V n a0 x1 x2 x3 t5 h
  · refine z_iconst (v := (-1)) C dR_take_32 (by decide) ?_
    refine z_goto C 62 dR_take_33 (by decide) ?_
    exact bR_take_62 C M V n a0 x1 x2 x3 (-1 : Int32) h
def fR_take (V : zV) (n : Nat) (a0 : Nat) (x1 : Int32) (x2 : Int32) : Option zR :=
    (z_obj V (some a0) [6]).bind fun o => zcI (fR_next V n o.1 x2) fun t1 V n =>
    if t1 = 0 then (
    (z_obj V (some a0) [6]).bind fun o => zcI (fR_hasCredit V n o.1 x1) fun t2 V n =>
    if t2 = 0 then (
    zrI (0 : Int32) V n) else (
    fR_take_20 V n a0 x1 x2 t1)) else (
    fR_take_20 V n a0 x1 x2 t1)
set_option maxHeartbeats 4000000 in
set_option maxRecDepth 100000 in
theorem bR_take {x : zX} {w : zR} (C : zC x prog_9_method_25_code "BarrierMarksModel" "take" 7 2 43 (some .int)) (M : zM x (zc w) (zs w)) : ∀ (V : zV) (n : Nat) (a0 : Nat) (x1 : Int32) (x2 : Int32), fR_take V n a0 x1 x2 = some w → zZ x 7 0 0 w V n 0 [(0, va_rf (some a0)), (1, .int x1), (2, .int x2)] [] := by
  intro V n a0 x1 x2 h
  unfold fR_take at h
  refine z_aload_n C 0 dR_take_0 rfl rfl ?_
  refine z_iload_n C 2 dR_take_1 rfl rfl ?_
  refine z_vPI (ci := 6) C M zRmP [.int x2] cv_R_169 rfl (by decide) (by decide) rfl rfl (Nat.zero_le _) dR_take_2 (fun b => fR_next V n b x2) h (fun b w1 e1 l D dA hl => mR_next hl e1) (fun t1 V n h => ?_)
  refine z_istore_n (lv' := [(3, .int t1), (0, va_rf (some a0)), (1, .int x1), (2, .int x2)]) (i := 3) C dR_take_5 rfl (by decide) rfl ?_
  refine z_iload_n C 0 dR_take_6 rfl rfl ?_
  refine z_if_ne C 20 dR_take_7 (by decide) h (fun h => ?_) (fun h => ?_)
  · refine z_sub [1, 2, 3, 0] rfl ?_
    exact bR_take_20 C M V n a0 x1 x2 t1 h
  · refine z_aload_n C 1 dR_take_10 rfl rfl ?_
    refine z_iload_n C 2 dR_take_11 rfl rfl ?_
    refine z_vPI (ci := 6) C M zRmP [.int x1] cv_R_162 rfl (by decide) (by decide) rfl rfl (Nat.zero_le _) dR_take_12 (fun b => fR_hasCredit V n b x1) h (fun b w1 e1 l D dA hl => mR_hasCredit hl e1) (fun t2 V n h => ?_)
    refine z_if_ne C 20 dR_take_15 (by decide) h (fun h => ?_) (fun h => ?_)
    · refine z_sub [1, 2, 3, 0] rfl ?_
      exact bR_take_20 C M V n a0 x1 x2 t1 h
    · refine z_iconst (v := 0) C dR_take_18 (by decide) ?_
      exact z_iret C M (Nat.zero_le _) (Nat.zero_le _) dR_take_19 h
theorem mR_take {l : Launch} {D : va_G} {dA : Nat → ClassId} {V : zV} {n : Nat} (hl : l.stackTraces = false) {a0 : Nat} {x1 : Int32} {x2 : Int32} {w : zR} (h : fR_take V n a0 x1 x2 = some w) : z_Met l ⟨"BarrierMarksModel", "take", "(II)I"⟩ prog_9_method_25_code 7 (some .int) 2 43 (zc w) (zs w) [.ref a0, .int x1, .int x2] D dA V n w := by exact z_ofZ hl (by decide) (Nat.le_of_ble_eq_true rfl) (fun x C M => bR_take C M V n a0 x1 x2 h)
/-! BarrierMarksModel.go(I)I -/
def fR_go_97 (K26 : zV → Nat → Nat → Int32 → Int32 → Int32 → Int32 → Option zR) (V : zV) (n : Nat) (a0 : Nat) (x1 : Int32) (x2 : Int32) (x3 : Int32) (x4 : Int32) : Option zR :=
    K26 V n a0 x1 x2 x3 (x4 + 1)
set_option maxHeartbeats 4000000 in
set_option maxRecDepth 100000 in
theorem bR_go_97 {x : zX} {w : zR} {K26 : zV → Nat → Nat → Int32 → Int32 → Int32 → Int32 → Option zR} (C : zC x prog_9_method_24_code "BarrierMarksModel" "go" 6 3 69 (some .int)) (M : zM x (zc w) (zs w)) (hK26 : ∀ (V : zV) (n : Nat) (a0 : Nat) (x1 : Int32) (x2 : Int32) (x3 : Int32) (x4 : Int32), K26 V n a0 x1 x2 x3 x4 = some w → zZ x 6 0 0 w V n 26 [(0, va_rf (some a0)), (1, .int x1), (2, .int x2), (3, .int x3), (4, .int x4)] []) : ∀ (V : zV) (n : Nat) (a0 : Nat) (x1 : Int32) (x2 : Int32) (x3 : Int32) (x4 : Int32), fR_go_97 K26 V n a0 x1 x2 x3 x4 = some w → zZ x 6 0 0 w V n 97 [(0, va_rf (some a0)), (1, .int x1), (2, .int x2), (3, .int x3), (4, .int x4)] [] := by
  intro V n a0 x1 x2 x3 x4 h
  unfold fR_go_97 at h
  refine z_iinc (lv' := [(4, .int (x4 + 1)), (0, va_rf (some a0)), (1, .int x1), (2, .int x2), (3, .int x3)]) C 4 dR_go_97 rfl rfl (by decide) rfl ?_
  refine z_goto C 26 dR_go_100 (by decide) ?_
  refine z_sub [1, 2, 3, 4, 0] rfl ?_
  exact hK26 V n a0 x1 x2 x3 (x4 + 1) h
def fR_go_95 (K26 : zV → Nat → Nat → Int32 → Int32 → Int32 → Int32 → Option zR) (V : zV) (n : Nat) (a0 : Nat) (x1 : Int32) (x2 : Int32) (x4 : Int32) (s0 : Int32) (s1 : Int32) : Option zR :=
    fR_go_97 K26 V n a0 x1 x2 (s0 &&& s1) x4
set_option maxHeartbeats 4000000 in
set_option maxRecDepth 100000 in
theorem bR_go_95 {x : zX} {w : zR} {K26 : zV → Nat → Nat → Int32 → Int32 → Int32 → Int32 → Option zR} (C : zC x prog_9_method_24_code "BarrierMarksModel" "go" 6 3 69 (some .int)) (M : zM x (zc w) (zs w)) (hK26 : ∀ (V : zV) (n : Nat) (a0 : Nat) (x1 : Int32) (x2 : Int32) (x3 : Int32) (x4 : Int32), K26 V n a0 x1 x2 x3 x4 = some w → zZ x 6 0 0 w V n 26 [(0, va_rf (some a0)), (1, .int x1), (2, .int x2), (3, .int x3), (4, .int x4)] []) : ∀ (V : zV) (n : Nat) (a0 : Nat) (x1 : Int32) (x2 : Int32) (x4 : Int32) (s0 : Int32) (s1 : Int32), fR_go_95 K26 V n a0 x1 x2 x4 s0 s1 = some w → zZ x 6 0 0 w V n 95 [(0, va_rf (some a0)), (1, .int x1), (2, .int x2), (4, .int x4)] [.int s1, .int s0] := by
  intro V n a0 x1 x2 x4 s0 s1 h
  unfold fR_go_95 at h
  refine z_iand C dR_go_95 ?_
  refine z_istore_n (lv' := [(3, .int (s0 &&& s1)), (0, va_rf (some a0)), (1, .int x1), (2, .int x2), (4, .int x4)]) (i := 3) C dR_go_96 rfl (by decide) rfl ?_
  refine z_sub [1, 2, 3, 0, 4] rfl ?_
  exact bR_go_97 C M hK26 V n a0 x1 x2 (s0 &&& s1) x4 h
def fR_go_90 (K26 : zV → Nat → Nat → Int32 → Int32 → Int32 → Int32 → Option zR) (V : zV) (n : Nat) (a0 : Nat) (x1 : Int32) (x2 : Int32) (x4 : Int32) (s0 : Int32) : Option zR :=
    fR_go_95 K26 V n a0 x1 x2 x4 s0 (1 : Int32)
set_option maxHeartbeats 4000000 in
set_option maxRecDepth 100000 in
theorem bR_go_90 {x : zX} {w : zR} {K26 : zV → Nat → Nat → Int32 → Int32 → Int32 → Int32 → Option zR} (C : zC x prog_9_method_24_code "BarrierMarksModel" "go" 6 3 69 (some .int)) (M : zM x (zc w) (zs w)) (hK26 : ∀ (V : zV) (n : Nat) (a0 : Nat) (x1 : Int32) (x2 : Int32) (x3 : Int32) (x4 : Int32), K26 V n a0 x1 x2 x3 x4 = some w → zZ x 6 0 0 w V n 26 [(0, va_rf (some a0)), (1, .int x1), (2, .int x2), (3, .int x3), (4, .int x4)] []) : ∀ (V : zV) (n : Nat) (a0 : Nat) (x1 : Int32) (x2 : Int32) (x4 : Int32) (s0 : Int32), fR_go_90 K26 V n a0 x1 x2 x4 s0 = some w → zZ x 6 0 0 w V n 90 [(0, va_rf (some a0)), (1, .int x1), (2, .int x2), (4, .int x4)] [.int s0] := by
  intro V n a0 x1 x2 x4 s0 h
  unfold fR_go_90 at h
  refine z_iconst (v := 1) C dR_go_90 (by decide) ?_
  refine z_goto C 95 dR_go_91 (by decide) ?_
  exact bR_go_95 C M hK26 V n a0 x1 x2 x4 s0 (1 : Int32) h
def fR_go_68 (K26 : zV → Nat → Nat → Int32 → Int32 → Int32 → Int32 → Option zR) (V : zV) (n : Nat) (a0 : Nat) (x1 : Int32) (x2 : Int32) (x3 : Int32) (x4 : Int32) : Option zR :=
    (zgR V (some a0) [6] 18).bind fun t1 =>
    (zaI V t1 0 x4).bind fun t2 =>
    if t2 = (-1 : Int32) then (
    (zgR V (some a0) [6] 17).bind fun t3 =>
    (zaI V t3 2 x4).bind fun t4 =>
    if t4 = 0 then (
    fR_go_95 K26 V n a0 x1 x2 x4 x3 (0 : Int32)) else (
    fR_go_90 K26 V n a0 x1 x2 x4 x3)) else (
    fR_go_90 K26 V n a0 x1 x2 x4 x3)
set_option maxHeartbeats 4000000 in
set_option maxRecDepth 100000 in
theorem bR_go_68 {x : zX} {w : zR} {K26 : zV → Nat → Nat → Int32 → Int32 → Int32 → Int32 → Option zR} (C : zC x prog_9_method_24_code "BarrierMarksModel" "go" 6 3 69 (some .int)) (M : zM x (zc w) (zs w)) (hK26 : ∀ (V : zV) (n : Nat) (a0 : Nat) (x1 : Int32) (x2 : Int32) (x3 : Int32) (x4 : Int32), K26 V n a0 x1 x2 x3 x4 = some w → zZ x 6 0 0 w V n 26 [(0, va_rf (some a0)), (1, .int x1), (2, .int x2), (3, .int x3), (4, .int x4)] []) : ∀ (V : zV) (n : Nat) (a0 : Nat) (x1 : Int32) (x2 : Int32) (x3 : Int32) (x4 : Int32), fR_go_68 K26 V n a0 x1 x2 x3 x4 = some w → zZ x 6 0 0 w V n 68 [(0, va_rf (some a0)), (1, .int x1), (2, .int x2), (3, .int x3), (4, .int x4)] [] := by
  intro V n a0 x1 x2 x3 x4 h
  unfold fR_go_68 at h
  refine z_iload_n C 3 dR_go_68 rfl rfl ?_
  refine z_aload_n C 0 dR_go_69 rfl rfl ?_
  refine z_getR C fl_R_54 dR_go_70 h (fun t1 h => ?_)
  refine z_iload C 4 dR_go_73 rfl ?_
  refine z_iald C rfl dR_go_75 h (fun t2 h => ?_)
  refine z_iconst (v := (-1)) C dR_go_76 (by decide) ?_
  refine z_icmp_ne C 90 dR_go_77 (by decide) h (fun h => ?_) (fun h => ?_)
  · refine z_sub [0, 1, 2, 4] rfl ?_
    exact bR_go_90 C M hK26 V n a0 x1 x2 x4 x3 h
  · refine z_aload_n C 0 dR_go_80 rfl rfl ?_
    refine z_getR C fl_R_51 dR_go_81 h (fun t3 h => ?_)
    refine z_iload C 4 dR_go_84 rfl ?_
    refine z_zald C rfl dR_go_86 h (fun t4 h => ?_)
    refine z_if_eq C 94 dR_go_87 (by decide) h (fun h => ?_) (fun h => ?_)
    · refine z_iconst (v := 0) C dR_go_94 (by decide) ?_
      refine z_sub [0, 1, 2, 4] rfl ?_
      exact bR_go_95 C M hK26 V n a0 x1 x2 x4 x3 (0 : Int32) h
    · refine z_sub [0, 1, 2, 4] rfl ?_
      exact bR_go_90 C M hK26 V n a0 x1 x2 x4 x3 h
def fR_go_259 (K218 : zV → Nat → Nat → Int32 → Int32 → Option zR) (V : zV) (n : Nat) (a0 : Nat) (x1 : Int32) (x4 : Int32) : Option zR :=
    K218 V n a0 x1 (x4 + 1)
set_option maxHeartbeats 4000000 in
set_option maxRecDepth 100000 in
theorem bR_go_259 {x : zX} {w : zR} {K218 : zV → Nat → Nat → Int32 → Int32 → Option zR} (C : zC x prog_9_method_24_code "BarrierMarksModel" "go" 6 3 69 (some .int)) (M : zM x (zc w) (zs w)) (hK218 : ∀ (V : zV) (n : Nat) (a0 : Nat) (x1 : Int32) (x4 : Int32), K218 V n a0 x1 x4 = some w → zZ x 6 0 0 w V n 218 [(0, va_rf (some a0)), (1, .int x1), (4, .int x4)] []) : ∀ (V : zV) (n : Nat) (a0 : Nat) (x1 : Int32) (x4 : Int32), fR_go_259 K218 V n a0 x1 x4 = some w → zZ x 6 0 0 w V n 259 [(0, va_rf (some a0)), (1, .int x1), (4, .int x4)] [] := by
  intro V n a0 x1 x4 h
  unfold fR_go_259 at h
  refine z_iinc (lv' := [(4, .int (x4 + 1)), (0, va_rf (some a0)), (1, .int x1)]) C 2 dR_go_259 rfl rfl (by decide) rfl ?_
  refine z_goto C 218 dR_go_262 (by decide) ?_
  refine z_sub [1, 2, 0] rfl ?_
  exact hK218 V n a0 x1 (x4 + 1) h
def fR_go_218 : Nat → zV → Nat → Nat → Int32 → Int32 → Option zR
  | 0 => fun _ _ _ _ _ => none
  | f9 + 1 => fun V n a0 x1 x4 =>
    (zgI V (some a0) [6] 19).bind fun t1 =>
    if t1 ≤ x4 then (
    zrI (6 : Int32) V n) else (
    (zgR V (some a0) [6] 20).bind fun t2 =>
    (zaI V t2 0 x4).bind fun t3 =>
    if t3 = 0 then (
    (zgR V (some a0) [6] 23).bind fun t4 =>
    (zaI V t4 2 ((((8 : Int32) * x4) + x1))).bind fun t5 =>
    if t5 = 0 then (
    (z_obj V (some a0) [6]).bind fun o => zcV (fR_keep V n o.1 x4 x1) fun V n =>
    fR_go_259 (fR_go_218 f9) V n a0 x1 x4) else (
    fR_go_259 (fR_go_218 f9) V n a0 x1 x4)) else (
    fR_go_259 (fR_go_218 f9) V n a0 x1 x4))
set_option maxHeartbeats 4000000 in
set_option maxRecDepth 100000 in
theorem bR_go_218 {x : zX} {w : zR} (C : zC x prog_9_method_24_code "BarrierMarksModel" "go" 6 3 69 (some .int)) (M : zM x (zc w) (zs w)) : ∀ (f9 : Nat) (V : zV) (n : Nat) (a0 : Nat) (x1 : Int32) (x4 : Int32), fR_go_218 f9 V n a0 x1 x4 = some w → zZ x 6 0 0 w V n 218 [(0, va_rf (some a0)), (1, .int x1), (4, .int x4)] [] := by
  intro f9
  induction f9 with
  | zero =>
    intro V n a0 x1 x4 h
    cases h
  | succ f9 ih =>
    intro V n a0 x1 x4 h
    unfold fR_go_218 at h
    refine z_iload C 2 dR_go_218 rfl ?_
    refine z_aload_n C 0 dR_go_220 rfl rfl ?_
    refine z_getI C fl_R_106 dR_go_221 h (fun t1 h => ?_)
    refine z_icmp_ge C 265 dR_go_224 (by decide) h (fun h => ?_) (fun h => ?_)
    · refine z_bipush (v := 6) C dR_go_265 (by decide) ?_
      exact z_iret C M (Nat.zero_le _) (Nat.zero_le _) dR_go_267 h
    · refine z_aload_n C 0 dR_go_227 rfl rfl ?_
      refine z_getR C fl_R_57 dR_go_228 h (fun t2 h => ?_)
      refine z_iload C 2 dR_go_231 rfl ?_
      refine z_iald C rfl dR_go_233 h (fun t3 h => ?_)
      refine z_if_ne C 259 dR_go_234 (by decide) h (fun h => ?_) (fun h => ?_)
      · exact bR_go_259 C M ih V n a0 x1 x4 h
      · refine z_aload_n C 0 dR_go_237 rfl rfl ?_
        refine z_getR C fl_R_66 dR_go_238 h (fun t4 h => ?_)
        refine z_bipush (v := 8) C dR_go_241 (by decide) ?_
        refine z_iload C 2 dR_go_243 rfl ?_
        refine z_imul C dR_go_245 ?_
        refine z_iload_n C 1 dR_go_246 rfl rfl ?_
        refine z_iadd C dR_go_247 ?_
        refine z_zald C rfl dR_go_248 h (fun t5 h => ?_)
        refine z_if_ne C 259 dR_go_249 (by decide) h (fun h => ?_) (fun h => ?_)
        · exact bR_go_259 C M ih V n a0 x1 x4 h
        · refine z_aload_n C 0 dR_go_252 rfl rfl ?_
          refine z_iload C 2 dR_go_253 rfl ?_
          refine z_iload_n C 1 dR_go_255 rfl rfl ?_
          refine z_vPV (ci := 6) C M zRmP [.int x4, .int x1] cv_R_134 rfl (by decide) (by decide) rfl rfl (Nat.zero_le _) dR_go_256 (fun b => fR_keep V n b x4 x1) h (fun b w1 e1 l D dA hl => mR_keep hl e1) (fun V n h => ?_)
          exact bR_go_259 C M ih V n a0 x1 x4 h
def fR_go_336 (K271 : zV → Nat → Nat → Int32 → Int32 → Option zR) (V : zV) (n : Nat) (a0 : Nat) (x1 : Int32) (x4 : Int32) : Option zR :=
    K271 V n a0 x1 (x4 + 1)
set_option maxHeartbeats 4000000 in
set_option maxRecDepth 100000 in
theorem bR_go_336 {x : zX} {w : zR} {K271 : zV → Nat → Nat → Int32 → Int32 → Option zR} (C : zC x prog_9_method_24_code "BarrierMarksModel" "go" 6 3 69 (some .int)) (M : zM x (zc w) (zs w)) (hK271 : ∀ (V : zV) (n : Nat) (a0 : Nat) (x1 : Int32) (x4 : Int32), K271 V n a0 x1 x4 = some w → zZ x 6 0 0 w V n 271 [(0, va_rf (some a0)), (1, .int x1), (4, .int x4)] []) : ∀ (V : zV) (n : Nat) (a0 : Nat) (x1 : Int32) (x4 : Int32), fR_go_336 K271 V n a0 x1 x4 = some w → zZ x 6 0 0 w V n 336 [(0, va_rf (some a0)), (1, .int x1), (4, .int x4)] [] := by
  intro V n a0 x1 x4 h
  unfold fR_go_336 at h
  refine z_iinc (lv' := [(4, .int (x4 + 1)), (0, va_rf (some a0)), (1, .int x1)]) C 2 dR_go_336 rfl rfl (by decide) rfl ?_
  refine z_goto C 271 dR_go_339 (by decide) ?_
  refine z_sub [1, 2, 0] rfl ?_
  exact hK271 V n a0 x1 (x4 + 1) h
def fR_go_271 : Nat → zV → Nat → Nat → Int32 → Int32 → Option zR
  | 0 => fun _ _ _ _ _ => none
  | f9 + 1 => fun V n a0 x1 x4 =>
    (zgI V (some a0) [6] 7).bind fun t1 =>
    if t1 < x4 then (
    zrI (0 : Int32) V n) else (
    (zgR V (some a0) [6] 6).bind fun t2 =>
    (zaI V t2 0 x1).bind fun t3 =>
    (zgI V (some a0) [6] 7).bind fun t4 =>
    if t4 = 0 then none else
    (zgR V (some a0) [6] 9).bind fun t5 =>
    (zaI V t5 0 (((t3 + x4) - (t3 + x4) / t4 * t4))).bind fun t6 =>
    if t6 = x1 then (
    (zgR V (some a0) [6] 18).bind fun t7 =>
    (zaI V t7 0 (((t3 + x4) - (t3 + x4) / t4 * t4))).bind fun t8 =>
    if t8 = (-1 : Int32) then (
    (z_obj V (some a0) [6]).bind fun o => zcI (fR_next V n o.1 (((t3 + x4) - (t3 + x4) / t4 * t4))) fun t9 V n =>
    if t9 = (-1 : Int32) then (
    fR_go_336 (fR_go_271 f9) V n a0 x1 x4) else (
    (z_obj V (some a0) [6]).bind fun o => zcI (fR_take V n o.1 x1 (((t3 + x4) - (t3 + x4) / t4 * t4))) fun t10 V n =>
    zrI t10 V n)) else (
    fR_go_336 (fR_go_271 f9) V n a0 x1 x4)) else (
    fR_go_336 (fR_go_271 f9) V n a0 x1 x4))
set_option maxHeartbeats 4000000 in
set_option maxRecDepth 100000 in
theorem bR_go_271 {x : zX} {w : zR} (C : zC x prog_9_method_24_code "BarrierMarksModel" "go" 6 3 69 (some .int)) (M : zM x (zc w) (zs w)) : ∀ (f9 : Nat) (V : zV) (n : Nat) (a0 : Nat) (x1 : Int32) (x4 : Int32), fR_go_271 f9 V n a0 x1 x4 = some w → zZ x 6 0 0 w V n 271 [(0, va_rf (some a0)), (1, .int x1), (4, .int x4)] [] := by
  intro f9
  induction f9 with
  | zero =>
    intro V n a0 x1 x4 h
    cases h
  | succ f9 ih =>
    intro V n a0 x1 x4 h
    unfold fR_go_271 at h
    refine z_iload C 2 dR_go_271 rfl ?_
    refine z_aload_n C 0 dR_go_273 rfl rfl ?_
    refine z_getI C fl_R_103 dR_go_274 h (fun t1 h => ?_)
    refine z_icmp_gt C 342 dR_go_277 (by decide) h (fun h => ?_) (fun h => ?_)
    · refine z_iconst (v := 0) C dR_go_342 (by decide) ?_
      exact z_iret C M (Nat.zero_le _) (Nat.zero_le _) dR_go_343 h
    · refine z_aload_n C 0 dR_go_280 rfl rfl ?_
      refine z_getR C fl_R_21 dR_go_281 h (fun t2 h => ?_)
      refine z_iload_n C 1 dR_go_284 rfl rfl ?_
      refine z_iald C rfl dR_go_285 h (fun t3 h => ?_)
      refine z_iload C 2 dR_go_286 rfl ?_
      refine z_iadd C dR_go_288 ?_
      refine z_aload_n C 0 dR_go_289 rfl rfl ?_
      refine z_getI C fl_R_103 dR_go_290 h (fun t4 h => ?_)
      by_cases hz9 : t4 = 0
      · rw [if_pos hz9] at h; cases h
      rw [if_neg hz9] at h
      refine z_irem C dR_go_293 hz9 ?_
      refine z_istore (lv' := [(5, .int ((t3 + x4) - (t3 + x4) / t4 * t4)), (0, va_rf (some a0)), (1, .int x1), (4, .int x4)]) C dR_go_294 (by decide) rfl ?_
      refine z_aload_n C 1 dR_go_296 rfl rfl ?_
      refine z_getR C fl_R_27 dR_go_297 h (fun t5 h => ?_)
      refine z_iload C 0 dR_go_300 rfl ?_
      refine z_iald C rfl dR_go_302 h (fun t6 h => ?_)
      refine z_iload_n C 2 dR_go_303 rfl rfl ?_
      refine z_icmp_ne C 336 dR_go_304 (by decide) h (fun h => ?_) (fun h => ?_)
      · refine z_sub [1, 2, 3] rfl ?_
        exact bR_go_336 C M ih V n a0 x1 x4 h
      · refine z_aload_n C 1 dR_go_307 rfl rfl ?_
        refine z_getR C fl_R_54 dR_go_308 h (fun t7 h => ?_)
        refine z_iload C 0 dR_go_311 rfl ?_
        refine z_iald C rfl dR_go_313 h (fun t8 h => ?_)
        refine z_iconst (v := (-1)) C dR_go_314 (by decide) ?_
        refine z_icmp_ne C 336 dR_go_315 (by decide) h (fun h => ?_) (fun h => ?_)
        · refine z_sub [1, 2, 3] rfl ?_
          exact bR_go_336 C M ih V n a0 x1 x4 h
        · refine z_aload_n C 1 dR_go_318 rfl rfl ?_
          refine z_iload C 0 dR_go_319 rfl ?_
          refine z_vPI (ci := 6) C M zRmP [.int (((t3 + x4) - (t3 + x4) / t4 * t4))] cv_R_169 rfl (by decide) (by decide) rfl rfl (Nat.zero_le _) dR_go_321 (fun b => fR_next V n b (((t3 + x4) - (t3 + x4) / t4 * t4))) h (fun b w1 e1 l D dA hl => mR_next hl e1) (fun t9 V n h => ?_)
          refine z_iconst (v := (-1)) C dR_go_324 (by decide) ?_
          refine z_icmp_eq C 336 dR_go_325 (by decide) h (fun h => ?_) (fun h => ?_)
          · refine z_sub [1, 2, 3] rfl ?_
            exact bR_go_336 C M ih V n a0 x1 x4 h
          · refine z_aload_n C 1 dR_go_328 rfl rfl ?_
            refine z_iload_n C 2 dR_go_329 rfl rfl ?_
            refine z_iload C 0 dR_go_330 rfl ?_
            refine z_vPI (ci := 6) C M zRmP [.int x1, .int (((t3 + x4) - (t3 + x4) / t4 * t4))] cv_R_172 rfl (by decide) (by decide) rfl rfl (Nat.zero_le _) dR_go_332 (fun b => fR_take V n b x1 (((t3 + x4) - (t3 + x4) / t4 * t4))) h (fun b w1 e1 l D dA hl => mR_take hl e1) (fun t10 V n h => ?_)
            exact z_iret C M (Nat.zero_le _) (Nat.zero_le _) dR_go_335 h
def fR_go_197 (V : zV) (n : Nat) (a0 : Nat) (x1 : Int32) (x3 : Int32) : Option zR :=
    if x3 = 0 then (
    fR_go_271 zF V n a0 x1 (1 : Int32)) else (
    (z_obj V (some a0) [6]).bind fun o => zcV (fR_give V n o.1 x1 (2 : Int32) (0 : Int64)) fun V n =>
    (zgR V (some a0) [6] 5).bind fun t1 =>
    (zsZ V t1 2 x1 (1 : Int32)).bind fun V =>
    fR_go_218 zF V n a0 x1 (0 : Int32))
set_option maxHeartbeats 4000000 in
set_option maxRecDepth 100000 in
theorem bR_go_197 {x : zX} {w : zR} (C : zC x prog_9_method_24_code "BarrierMarksModel" "go" 6 3 69 (some .int)) (M : zM x (zc w) (zs w)) : ∀ (V : zV) (n : Nat) (a0 : Nat) (x1 : Int32) (x3 : Int32), fR_go_197 V n a0 x1 x3 = some w → zZ x 6 0 0 w V n 197 [(0, va_rf (some a0)), (1, .int x1), (3, .int x3)] [] := by
  intro V n a0 x1 x3 h
  unfold fR_go_197 at h
  refine z_iload_n C 2 dR_go_197 rfl rfl ?_
  refine z_if_eq C 268 dR_go_198 (by decide) h (fun h => ?_) (fun h => ?_)
  · refine z_iconst (v := 1) C dR_go_268 (by decide) ?_
    refine z_istore (lv' := [(4, .int (1 : Int32)), (0, va_rf (some a0)), (1, .int x1), (3, .int x3)]) C dR_go_269 (by decide) rfl ?_
    refine z_sub [1, 2, 0] rfl ?_
    exact bR_go_271 C M zF V n a0 x1 (1 : Int32) h
  · refine z_aload_n C 0 dR_go_201 rfl rfl ?_
    refine z_iload_n C 1 dR_go_202 rfl rfl ?_
    refine z_iconst (v := 2) C dR_go_203 (by decide) ?_
    refine z_lconst (v := 0) C dR_go_204 (by decide) ?_
    refine z_vPV (ci := 6) C M zRmP [.int x1, .int (2 : Int32), .long (0 : Int64)] cv_R_165 rfl (by decide) (by decide) rfl rfl (Nat.zero_le _) dR_go_205 (fun b => fR_give V n b x1 (2 : Int32) (0 : Int64)) h (fun b w1 e1 l D dA hl => mR_give hl e1) (fun V n h => ?_)
    refine z_aload_n C 0 dR_go_208 rfl rfl ?_
    refine z_getR C fl_R_17 dR_go_209 h (fun t1 h => ?_)
    refine z_iload_n C 1 dR_go_212 rfl rfl ?_
    refine z_iconst (v := 1) C dR_go_213 (by decide) ?_
    refine z_zast C rfl dR_go_214 h (fun V h => ?_)
    refine z_iconst (v := 0) C dR_go_215 (by decide) ?_
    refine z_istore (lv' := [(4, .int (0 : Int32)), (0, va_rf (some a0)), (1, .int x1), (3, .int x3)]) C dR_go_216 (by decide) rfl ?_
    refine z_sub [1, 2, 0] rfl ?_
    exact bR_go_218 C M zF V n a0 x1 (0 : Int32) h
def fR_go_189 (K161 : zV → Nat → Nat → Int32 → Int32 → Option zR) (V : zV) (n : Nat) (a0 : Nat) (x1 : Int32) (x4 : Int32) : Option zR :=
    K161 V n a0 x1 (x4 + 1)
set_option maxHeartbeats 4000000 in
set_option maxRecDepth 100000 in
theorem bR_go_189 {x : zX} {w : zR} {K161 : zV → Nat → Nat → Int32 → Int32 → Option zR} (C : zC x prog_9_method_24_code "BarrierMarksModel" "go" 6 3 69 (some .int)) (M : zM x (zc w) (zs w)) (hK161 : ∀ (V : zV) (n : Nat) (a0 : Nat) (x1 : Int32) (x4 : Int32), K161 V n a0 x1 x4 = some w → zZ x 6 0 0 w V n 161 [(0, va_rf (some a0)), (1, .int x1), (4, .int x4)] []) : ∀ (V : zV) (n : Nat) (a0 : Nat) (x1 : Int32) (x4 : Int32), fR_go_189 K161 V n a0 x1 x4 = some w → zZ x 6 0 0 w V n 189 [(0, va_rf (some a0)), (1, .int x1), (4, .int x4)] [] := by
  intro V n a0 x1 x4 h
  unfold fR_go_189 at h
  refine z_iinc (lv' := [(4, .int (x4 + 1)), (0, va_rf (some a0)), (1, .int x1)]) C 2 dR_go_189 rfl rfl (by decide) rfl ?_
  refine z_goto C 161 dR_go_192 (by decide) ?_
  refine z_sub [1, 2, 0] rfl ?_
  exact hK161 V n a0 x1 (x4 + 1) h
def fR_go_161 : Nat → zV → Nat → Nat → Int32 → Int32 → Option zR
  | 0 => fun _ _ _ _ _ => none
  | f9 + 1 => fun V n a0 x1 x4 =>
    (zgI V (some a0) [6] 7).bind fun t1 =>
    if t1 ≤ x4 then (
    zrI (4 : Int32) V n) else (
    (zgR V (some a0) [6] 9).bind fun t2 =>
    (zaI V t2 0 x4).bind fun t3 =>
    if t3 = x1 then (
    (zgR V (some a0) [6] 18).bind fun t4 =>
    (zsI V t4 0 x4 (-1 : Int32)).bind fun V =>
    fR_go_189 (fR_go_161 f9) V n a0 x1 x4) else (
    fR_go_189 (fR_go_161 f9) V n a0 x1 x4))
set_option maxHeartbeats 4000000 in
set_option maxRecDepth 100000 in
theorem bR_go_161 {x : zX} {w : zR} (C : zC x prog_9_method_24_code "BarrierMarksModel" "go" 6 3 69 (some .int)) (M : zM x (zc w) (zs w)) : ∀ (f9 : Nat) (V : zV) (n : Nat) (a0 : Nat) (x1 : Int32) (x4 : Int32), fR_go_161 f9 V n a0 x1 x4 = some w → zZ x 6 0 0 w V n 161 [(0, va_rf (some a0)), (1, .int x1), (4, .int x4)] [] := by
  intro f9
  induction f9 with
  | zero =>
    intro V n a0 x1 x4 h
    cases h
  | succ f9 ih =>
    intro V n a0 x1 x4 h
    unfold fR_go_161 at h
    refine z_iload C 2 dR_go_161 rfl ?_
    refine z_aload_n C 0 dR_go_163 rfl rfl ?_
    refine z_getI C fl_R_103 dR_go_164 h (fun t1 h => ?_)
    refine z_icmp_ge C 195 dR_go_167 (by decide) h (fun h => ?_) (fun h => ?_)
    · refine z_iconst (v := 4) C dR_go_195 (by decide) ?_
      exact z_iret C M (Nat.zero_le _) (Nat.zero_le _) dR_go_196 h
    · refine z_aload_n C 0 dR_go_170 rfl rfl ?_
      refine z_getR C fl_R_27 dR_go_171 h (fun t2 h => ?_)
      refine z_iload C 2 dR_go_174 rfl ?_
      refine z_iald C rfl dR_go_176 h (fun t3 h => ?_)
      refine z_iload_n C 1 dR_go_177 rfl rfl ?_
      refine z_icmp_ne C 189 dR_go_178 (by decide) h (fun h => ?_) (fun h => ?_)
      · exact bR_go_189 C M ih V n a0 x1 x4 h
      · refine z_aload_n C 0 dR_go_181 rfl rfl ?_
        refine z_getR C fl_R_54 dR_go_182 h (fun t4 h => ?_)
        refine z_iload C 2 dR_go_185 rfl ?_
        refine z_iconst (v := (-1)) C dR_go_187 (by decide) ?_
        refine z_iast C rfl dR_go_188 h (fun V h => ?_)
        exact bR_go_189 C M ih V n a0 x1 x4 h
def fR_go_26 : Nat → zV → Nat → Nat → Int32 → Int32 → Int32 → Int32 → Option zR
  | 0 => fun _ _ _ _ _ _ _ => none
  | f9 + 1 => fun V n a0 x1 x2 x3 x4 =>
    (zgI V (some a0) [6] 7).bind fun t1 =>
    if t1 ≤ x4 then (
    if x3 = 0 then (
    fR_go_197 V n a0 x1 x3) else (
    if x2 = (-1 : Int32) then (
    fR_go_197 V n a0 x1 x3) else (
    (z_obj V (some a0) [6]).bind fun o => zcI (fR_hasCredit V n o.1 x1) fun t2 V n =>
    if t2 = 0 then (
    zrI (0 : Int32) V n) else (
    (zgR V (some a0) [6] 27).bind fun t3 =>
    (zaI V t3 2 ((((8 : Int32) * x2) + x1))).bind fun t4 =>
    if t4 = 0 then (
    (z_obj V (some a0) [6]).bind fun o => zcV (fR_keep V n o.1 x2 x1) fun V n =>
    (z_obj V (some a0) [6]).bind fun o => zcV (fR_give V n o.1 x1 (1 : Int32) x2.toInt64) fun V n =>
    fR_go_161 zF V n a0 x1 (0 : Int32)) else (
    (z_obj V (some a0) [6]).bind fun o => zcV (fR_close V n o.1 x2 (2 : Int32)) fun V n =>
    zrI (5 : Int32) V n))))) else (
    (zgR V (some a0) [6] 9).bind fun t5 =>
    (zaI V t5 0 x4).bind fun t6 =>
    if t6 = x1 then (
    (zgR V (some a0) [6] 18).bind fun t7 =>
    (zaI V t7 0 x4).bind fun t8 =>
    if t8 = (-1 : Int32) then (
    fR_go_68 (fR_go_26 f9) V n a0 x1 x2 x3 x4) else (
    (zgR V (some a0) [6] 18).bind fun t9 =>
    (zaI V t9 0 x4).bind fun t10 =>
    fR_go_68 (fR_go_26 f9) V n a0 x1 t10 x3 x4)) else (
    fR_go_97 (fR_go_26 f9) V n a0 x1 x2 x3 x4))
set_option maxHeartbeats 4000000 in
set_option maxRecDepth 100000 in
theorem bR_go_26 {x : zX} {w : zR} (C : zC x prog_9_method_24_code "BarrierMarksModel" "go" 6 3 69 (some .int)) (M : zM x (zc w) (zs w)) : ∀ (f9 : Nat) (V : zV) (n : Nat) (a0 : Nat) (x1 : Int32) (x2 : Int32) (x3 : Int32) (x4 : Int32), fR_go_26 f9 V n a0 x1 x2 x3 x4 = some w → zZ x 6 0 0 w V n 26 [(0, va_rf (some a0)), (1, .int x1), (2, .int x2), (3, .int x3), (4, .int x4)] [] := by
  intro f9
  induction f9 with
  | zero =>
    intro V n a0 x1 x2 x3 x4 h
    cases h
  | succ f9 ih =>
    intro V n a0 x1 x2 x3 x4 h
    unfold fR_go_26 at h
    refine z_iload C 4 dR_go_26 rfl ?_
    refine z_aload_n C 0 dR_go_28 rfl rfl ?_
    refine z_getI C fl_R_103 dR_go_29 h (fun t1 h => ?_)
    refine z_icmp_ge C 103 dR_go_32 (by decide) h (fun h => ?_) (fun h => ?_)
    · refine z_iload_n C 3 dR_go_103 rfl rfl ?_
      refine z_if_eq C 197 dR_go_104 (by decide) h (fun h => ?_) (fun h => ?_)
      · refine z_sub [0, 1, 3] rfl ?_
        exact bR_go_197 C M V n a0 x1 x3 h
      · refine z_iload_n C 2 dR_go_107 rfl rfl ?_
        refine z_iconst (v := (-1)) C dR_go_108 (by decide) ?_
        refine z_icmp_eq C 197 dR_go_109 (by decide) h (fun h => ?_) (fun h => ?_)
        · refine z_sub [0, 1, 3] rfl ?_
          exact bR_go_197 C M V n a0 x1 x3 h
        · refine z_aload_n C 0 dR_go_112 rfl rfl ?_
          refine z_iload_n C 1 dR_go_113 rfl rfl ?_
          refine z_vPI (ci := 6) C M zRmP [.int x1] cv_R_162 rfl (by decide) (by decide) rfl rfl (Nat.zero_le _) dR_go_114 (fun b => fR_hasCredit V n b x1) h (fun b w1 e1 l D dA hl => mR_hasCredit hl e1) (fun t2 V n h => ?_)
          refine z_if_ne C 122 dR_go_117 (by decide) h (fun h => ?_) (fun h => ?_)
          · refine z_aload_n C 0 dR_go_122 rfl rfl ?_
            refine z_getR C fl_R_78 dR_go_123 h (fun t3 h => ?_)
            refine z_bipush (v := 8) C dR_go_126 (by decide) ?_
            refine z_iload_n C 2 dR_go_128 rfl rfl ?_
            refine z_imul C dR_go_129 ?_
            refine z_iload_n C 1 dR_go_130 rfl rfl ?_
            refine z_iadd C dR_go_131 ?_
            refine z_zald C rfl dR_go_132 h (fun t4 h => ?_)
            refine z_if_eq C 144 dR_go_133 (by decide) h (fun h => ?_) (fun h => ?_)
            · refine z_aload_n C 0 dR_go_144 rfl rfl ?_
              refine z_iload_n C 2 dR_go_145 rfl rfl ?_
              refine z_iload_n C 1 dR_go_146 rfl rfl ?_
              refine z_vPV (ci := 6) C M zRmP [.int x2, .int x1] cv_R_134 rfl (by decide) (by decide) rfl rfl (Nat.zero_le _) dR_go_147 (fun b => fR_keep V n b x2 x1) h (fun b w1 e1 l D dA hl => mR_keep hl e1) (fun V n h => ?_)
              refine z_aload_n C 0 dR_go_150 rfl rfl ?_
              refine z_iload_n C 1 dR_go_151 rfl rfl ?_
              refine z_iconst (v := 1) C dR_go_152 (by decide) ?_
              refine z_iload_n C 2 dR_go_153 rfl rfl ?_
              refine z_i2l C dR_go_154 ?_
              refine z_vPV (ci := 6) C M zRmP [.int x1, .int (1 : Int32), .long x2.toInt64] cv_R_165 rfl (by decide) (by decide) rfl rfl (Nat.zero_le _) dR_go_155 (fun b => fR_give V n b x1 (1 : Int32) x2.toInt64) h (fun b w1 e1 l D dA hl => mR_give hl e1) (fun V n h => ?_)
              refine z_iconst (v := 0) C dR_go_158 (by decide) ?_
              refine z_istore (lv' := [(4, .int (0 : Int32)), (0, va_rf (some a0)), (1, .int x1), (2, .int x2), (3, .int x3)]) C dR_go_159 (by decide) rfl ?_
              refine z_sub [1, 2, 0] rfl ?_
              exact bR_go_161 C M zF V n a0 x1 (0 : Int32) h
            · refine z_aload_n C 0 dR_go_136 rfl rfl ?_
              refine z_iload_n C 2 dR_go_137 rfl rfl ?_
              refine z_iconst (v := 2) C dR_go_138 (by decide) ?_
              refine z_vPV (ci := 6) C M zRmP [.int x2, .int (2 : Int32)] cv_R_159 rfl (by decide) (by decide) rfl rfl (Nat.zero_le _) dR_go_139 (fun b => fR_close V n b x2 (2 : Int32)) h (fun b w1 e1 l D dA hl => mR_close hl e1) (fun V n h => ?_)
              refine z_iconst (v := 5) C dR_go_142 (by decide) ?_
              exact z_iret C M (Nat.zero_le _) (Nat.zero_le _) dR_go_143 h
          · refine z_iconst (v := 0) C dR_go_120 (by decide) ?_
            exact z_iret C M (Nat.zero_le _) (Nat.zero_le _) dR_go_121 h
    · refine z_aload_n C 0 dR_go_35 rfl rfl ?_
      refine z_getR C fl_R_27 dR_go_36 h (fun t5 h => ?_)
      refine z_iload C 4 dR_go_39 rfl ?_
      refine z_iald C rfl dR_go_41 h (fun t6 h => ?_)
      refine z_iload_n C 1 dR_go_42 rfl rfl ?_
      refine z_icmp_eq C 49 dR_go_43 (by decide) h (fun h => ?_) (fun h => ?_)
      · refine z_aload_n C 0 dR_go_49 rfl rfl ?_
        refine z_getR C fl_R_54 dR_go_50 h (fun t7 h => ?_)
        refine z_iload C 4 dR_go_53 rfl ?_
        refine z_iald C rfl dR_go_55 h (fun t8 h => ?_)
        refine z_iconst (v := (-1)) C dR_go_56 (by decide) ?_
        refine z_icmp_eq C 68 dR_go_57 (by decide) h (fun h => ?_) (fun h => ?_)
        · exact bR_go_68 C M ih V n a0 x1 x2 x3 x4 h
        · refine z_aload_n C 0 dR_go_60 rfl rfl ?_
          refine z_getR C fl_R_54 dR_go_61 h (fun t9 h => ?_)
          refine z_iload C 4 dR_go_64 rfl ?_
          refine z_iald C rfl dR_go_66 h (fun t10 h => ?_)
          refine z_istore_n (lv' := [(2, .int t10), (0, va_rf (some a0)), (1, .int x1), (3, .int x3), (4, .int x4)]) (i := 2) C dR_go_67 rfl (by decide) rfl ?_
          refine z_sub [1, 2, 0, 3, 4] rfl ?_
          exact bR_go_68 C M ih V n a0 x1 t10 x3 x4 h
      · refine z_goto C 97 dR_go_46 (by decide) ?_
        exact bR_go_97 C M ih V n a0 x1 x2 x3 x4 h
def fR_go (V : zV) (n : Nat) (a0 : Nat) (x1 : Int32) : Option zR :=
    (zgR V (some a0) [6] 5).bind fun t1 =>
    (zaI V t1 2 x1).bind fun t2 =>
    if t2 = 0 then (
    (z_obj V (some a0) [6]).bind fun o => zcI (fR_hasInto V n o.1 x1) fun t3 V n =>
    if t3 = 0 then (
    zrI (0 : Int32) V n) else (
    fR_go_26 zF V n a0 x1 (-1 : Int32) (1 : Int32) (0 : Int32))) else (
    zrI (0 : Int32) V n)
set_option maxHeartbeats 4000000 in
set_option maxRecDepth 100000 in
theorem bR_go {x : zX} {w : zR} (C : zC x prog_9_method_24_code "BarrierMarksModel" "go" 6 3 69 (some .int)) (M : zM x (zc w) (zs w)) : ∀ (V : zV) (n : Nat) (a0 : Nat) (x1 : Int32), fR_go V n a0 x1 = some w → zZ x 6 0 0 w V n 0 [(0, va_rf (some a0)), (1, .int x1)] [] := by
  intro V n a0 x1 h
  unfold fR_go at h
  refine z_aload_n C 0 dR_go_0 rfl rfl ?_
  refine z_getR C fl_R_17 dR_go_1 h (fun t1 h => ?_)
  refine z_iload_n C 1 dR_go_4 rfl rfl ?_
  refine z_zald C rfl dR_go_5 h (fun t2 h => ?_)
  refine z_if_ne C 17 dR_go_6 (by decide) h (fun h => ?_) (fun h => ?_)
  · refine z_iconst (v := 0) C dR_go_17 (by decide) ?_
    exact z_iret C M (Nat.zero_le _) (Nat.zero_le _) dR_go_18 h
  · refine z_aload_n C 0 dR_go_9 rfl rfl ?_
    refine z_iload_n C 1 dR_go_10 rfl rfl ?_
    refine z_vPI (ci := 6) C M zRmP [.int x1] cv_R_121 rfl (by decide) (by decide) rfl rfl (Nat.zero_le _) dR_go_11 (fun b => fR_hasInto V n b x1) h (fun b w1 e1 l D dA hl => mR_hasInto hl e1) (fun t3 V n h => ?_)
    refine z_if_ne C 19 dR_go_14 (by decide) h (fun h => ?_) (fun h => ?_)
    · refine z_iconst (v := (-1)) C dR_go_19 (by decide) ?_
      refine z_istore_n (lv' := [(2, .int (-1 : Int32)), (0, va_rf (some a0)), (1, .int x1)]) (i := 2) C dR_go_20 rfl (by decide) rfl ?_
      refine z_iconst (v := 1) C dR_go_21 (by decide) ?_
      refine z_istore_n (lv' := [(3, .int (1 : Int32)), (2, .int (-1 : Int32)), (0, va_rf (some a0)), (1, .int x1)]) (i := 3) C dR_go_22 rfl (by decide) rfl ?_
      refine z_iconst (v := 0) C dR_go_23 (by decide) ?_
      refine z_istore (lv' := [(4, .int (0 : Int32)), (3, .int (1 : Int32)), (2, .int (-1 : Int32)), (0, va_rf (some a0)), (1, .int x1)]) C dR_go_24 (by decide) rfl ?_
      refine z_sub [3, 4, 2, 1, 0] rfl ?_
      exact bR_go_26 C M zF V n a0 x1 (-1 : Int32) (1 : Int32) (0 : Int32) h
    · refine z_iconst (v := 0) C dR_go_17 (by decide) ?_
      exact z_iret C M (Nat.zero_le _) (Nat.zero_le _) dR_go_18 h
theorem mR_go {l : Launch} {D : va_G} {dA : Nat → ClassId} {V : zV} {n : Nat} (hl : l.stackTraces = false) {a0 : Nat} {x1 : Int32} {w : zR} (h : fR_go V n a0 x1 = some w) : z_Met l ⟨"BarrierMarksModel", "go", "(I)I"⟩ prog_9_method_24_code 6 (some .int) 3 69 (zc w) (zs w) [.ref a0, .int x1] D dA V n w := by exact z_ofZ hl (by decide) (Nat.le_of_ble_eq_true rfl) (fun x C M => bR_go C M V n a0 x1 h)
/-! BarrierMarksModel.turn(I)I -/
def fR_turn_19 (V : zV) (n : Nat) (a0 : Nat) (x1 : Int32) (s0 : Option Nat) (s1 : Int32) : Option zR :=
    (zpI V s0 [6] 1 s1).bind fun V =>
    (zgI V (some a0) [6] 1).bind fun t1 =>
    if t1 ≤ 0 then (
    if x1 = (-1 : Int32) then (
    (z_obj V (some a0) [6]).bind fun o => zcI (fR_keeper V n o.1 ) fun t3 V n =>
    zrI t3 V n) else (
    (z_obj V (some a0) [6]).bind fun o => zcI (fR_go V n o.1 x1) fun t2 V n =>
    zrI t2 V n)) else (
    zrI (0 : Int32) V n)
set_option maxHeartbeats 4000000 in
set_option maxRecDepth 100000 in
theorem bR_turn_19 {x : zX} {w : zR} (C : zC x prog_9_method_22_code "BarrierMarksModel" "turn" 2 4 94 (some .int)) (M : zM x (zc w) (zs w)) : ∀ (V : zV) (n : Nat) (a0 : Nat) (x1 : Int32) (s0 : Option Nat) (s1 : Int32), fR_turn_19 V n a0 x1 s0 s1 = some w → zZ x 2 0 0 w V n 19 [(0, va_rf (some a0)), (1, .int x1)] [.int s1, va_rf s0] := by
  intro V n a0 x1 s0 s1 h
  unfold fR_turn_19 at h
  refine z_putI C pf_R_100 (fun h => absurd h (by decide)) dR_turn_19 h (fun V h => ?_)
  refine z_aload_n C 0 dR_turn_22 rfl rfl ?_
  refine z_getI C fl_R_100 dR_turn_23 h (fun t1 h => ?_)
  refine z_if_le C 31 dR_turn_26 (by decide) h (fun h => ?_) (fun h => ?_)
  · refine z_iload_n C 1 dR_turn_31 rfl rfl ?_
    refine z_iconst (v := (-1)) C dR_turn_32 (by decide) ?_
    refine z_icmp_ne C 43 dR_turn_33 (by decide) h (fun h => ?_) (fun h => ?_)
    · refine z_aload_n C 0 dR_turn_43 rfl rfl ?_
      refine z_iload_n C 1 dR_turn_44 rfl rfl ?_
      refine z_vPI (ci := 6) C M zRmP [.int x1] cv_R_153 rfl (by decide) (by decide) rfl rfl (Nat.zero_le _) dR_turn_45 (fun b => fR_go V n b x1) h (fun b w1 e1 l D dA hl => mR_go hl e1) (fun t2 V n h => ?_)
      exact z_iret C M (Nat.zero_le _) (Nat.zero_le _) dR_turn_48 h
    · refine z_aload_n C 0 dR_turn_36 rfl rfl ?_
      refine z_vPI (ci := 6) C M zRmP [] cv_R_150 rfl (by decide) (by decide) rfl rfl (Nat.zero_le _) dR_turn_37 (fun b => fR_keeper V n b ) h (fun b w1 e1 l D dA hl => mR_keeper hl e1) (fun t3 V n h => ?_)
      refine z_goto C 48 dR_turn_40 (by decide) ?_
      exact z_iret C M (Nat.zero_le _) (Nat.zero_le _) dR_turn_48 h
  · refine z_iconst (v := 0) C dR_turn_29 (by decide) ?_
    exact z_iret C M (Nat.zero_le _) (Nat.zero_le _) dR_turn_30 h
def fR_turn_14 (V : zV) (n : Nat) (a0 : Nat) (x1 : Int32) (s0 : Option Nat) : Option zR :=
    fR_turn_19 V n a0 x1 s0 (0 : Int32)
set_option maxHeartbeats 4000000 in
set_option maxRecDepth 100000 in
theorem bR_turn_14 {x : zX} {w : zR} (C : zC x prog_9_method_22_code "BarrierMarksModel" "turn" 2 4 94 (some .int)) (M : zM x (zc w) (zs w)) : ∀ (V : zV) (n : Nat) (a0 : Nat) (x1 : Int32) (s0 : Option Nat), fR_turn_14 V n a0 x1 s0 = some w → zZ x 2 0 0 w V n 14 [(0, va_rf (some a0)), (1, .int x1)] [va_rf s0] := by
  intro V n a0 x1 s0 h
  unfold fR_turn_14 at h
  refine z_iconst (v := 0) C dR_turn_14 (by decide) ?_
  refine z_goto C 19 dR_turn_15 (by decide) ?_
  exact bR_turn_19 C M V n a0 x1 s0 (0 : Int32) h
def fR_turn (V : zV) (n : Nat) (a0 : Nat) (x1 : Int32) : Option zR :=
    if x1 = (-1 : Int32) then (
    fR_turn_14 V n a0 x1 (some a0)) else (
    (z_obj V (some a0) [6]).bind fun o => zcI (fR_isTask V n o.1 x1) fun t1 V n =>
    if t1 = 0 then (
    fR_turn_19 V n a0 x1 (some a0) (1 : Int32)) else (
    fR_turn_14 V n a0 x1 (some a0)))
set_option maxHeartbeats 4000000 in
set_option maxRecDepth 100000 in
theorem bR_turn {x : zX} {w : zR} (C : zC x prog_9_method_22_code "BarrierMarksModel" "turn" 2 4 94 (some .int)) (M : zM x (zc w) (zs w)) : ∀ (V : zV) (n : Nat) (a0 : Nat) (x1 : Int32), fR_turn V n a0 x1 = some w → zZ x 2 0 0 w V n 0 [(0, va_rf (some a0)), (1, .int x1)] [] := by
  intro V n a0 x1 h
  unfold fR_turn at h
  refine z_aload_n C 0 dR_turn_0 rfl rfl ?_
  refine z_iload_n C 1 dR_turn_1 rfl rfl ?_
  refine z_iconst (v := (-1)) C dR_turn_2 (by decide) ?_
  refine z_icmp_eq C 14 dR_turn_3 (by decide) h (fun h => ?_) (fun h => ?_)
  · exact bR_turn_14 C M V n a0 x1 (some a0) h
  · refine z_aload_n C 0 dR_turn_6 rfl rfl ?_
    refine z_iload_n C 1 dR_turn_7 rfl rfl ?_
    refine z_vPI (ci := 6) C M zRmP [.int x1] cv_R_109 rfl (by decide) (by decide) rfl rfl (by first | decide | (simp [zrfcat, zicat, zlcat]; done)) dR_turn_8 (fun b => fR_isTask V n b x1) h (fun b w1 e1 l D dA hl => mR_isTask hl e1) (fun t1 V n h => ?_)
    refine z_if_eq C 18 dR_turn_11 (by decide) h (fun h => ?_) (fun h => ?_)
    · refine z_iconst (v := 1) C dR_turn_18 (by decide) ?_
      exact bR_turn_19 C M V n a0 x1 (some a0) (1 : Int32) h
    · exact bR_turn_14 C M V n a0 x1 (some a0) h
theorem mR_turn {l : Launch} {D : va_G} {dA : Nat → ClassId} {V : zV} {n : Nat} (hl : l.stackTraces = false) {a0 : Nat} {x1 : Int32} {w : zR} (h : fR_turn V n a0 x1 = some w) : z_Met l ⟨"BarrierMarksModel", "turn", "(I)I"⟩ prog_9_method_22_code 2 (some .int) 4 94 (zc w) (zs w) [.ref a0, .int x1] D dA V n w := by exact z_ofZ hl (by decide) (Nat.le_of_ble_eq_true rfl) (fun x C M => bR_turn C M V n a0 x1 h)
/-! BarrierMarksModel.play(JI)I -/
def fR_play_110 (K39 : zV → Nat → Nat → Int32 → Int64 → Int32 → Int32 → Option zR) (V : zV) (n : Nat) (a0 : Nat) (x3 : Int32) (x4 : Int64) (x7 : Int32) (s0 : Int32) (s1 : Int32) : Option zR :=
    K39 V n a0 x3 x4 (s0 + s1) (x7 + 1)
set_option maxHeartbeats 4000000 in
set_option maxRecDepth 100000 in
theorem bR_play_110 {x : zX} {w : zR} {K39 : zV → Nat → Nat → Int32 → Int64 → Int32 → Int32 → Option zR} (C : zC x prog_9_method_26_code "BarrierMarksModel" "play" 10 4 94 (some .int)) (M : zM x (zc w) (zs w)) (hK39 : ∀ (V : zV) (n : Nat) (a0 : Nat) (x3 : Int32) (x4 : Int64) (x6 : Int32) (x7 : Int32), K39 V n a0 x3 x4 x6 x7 = some w → zZ x 10 0 0 w V n 39 [(0, va_rf (some a0)), (3, .int x3), (4, .long x4), (6, .int x6), (7, .int x7)] []) : ∀ (V : zV) (n : Nat) (a0 : Nat) (x3 : Int32) (x4 : Int64) (x7 : Int32) (s0 : Int32) (s1 : Int32), fR_play_110 K39 V n a0 x3 x4 x7 s0 s1 = some w → zZ x 10 0 0 w V n 110 [(0, va_rf (some a0)), (3, .int x3), (4, .long x4), (7, .int x7)] [.int s1, .int s0] := by
  intro V n a0 x3 x4 x7 s0 s1 h
  unfold fR_play_110 at h
  refine z_iadd C dR_play_110 ?_
  refine z_istore (lv' := [(6, .int (s0 + s1)), (0, va_rf (some a0)), (3, .int x3), (4, .long x4), (7, .int x7)]) C dR_play_111 (by decide) rfl ?_
  refine z_iinc (lv' := [(7, .int (x7 + 1)), (6, .int (s0 + s1)), (0, va_rf (some a0)), (3, .int x3), (4, .long x4)]) C 4 dR_play_113 rfl rfl (by decide) rfl ?_
  refine z_goto C 39 dR_play_116 (by decide) ?_
  refine z_sub [2, 3, 4, 1, 0] rfl ?_
  exact hK39 V n a0 x3 x4 (s0 + s1) (x7 + 1) h
def fR_play_95 (K39 : zV → Nat → Nat → Int32 → Int64 → Int32 → Int32 → Option zR) (V : zV) (n : Nat) (a0 : Nat) (x3 : Int32) (x4 : Int64) (x6 : Int32) (x7 : Int32) (s0 : Int32) : Option zR :=
    if s0 = (1 : Int32) then (
    fR_play_110 K39 V n a0 x3 x4 x7 x6 (1 : Int32)) else (
    fR_play_110 K39 V n a0 x3 x4 x7 x6 (0 : Int32))
set_option maxHeartbeats 4000000 in
set_option maxRecDepth 100000 in
theorem bR_play_95 {x : zX} {w : zR} {K39 : zV → Nat → Nat → Int32 → Int64 → Int32 → Int32 → Option zR} (C : zC x prog_9_method_26_code "BarrierMarksModel" "play" 10 4 94 (some .int)) (M : zM x (zc w) (zs w)) (hK39 : ∀ (V : zV) (n : Nat) (a0 : Nat) (x3 : Int32) (x4 : Int64) (x6 : Int32) (x7 : Int32), K39 V n a0 x3 x4 x6 x7 = some w → zZ x 10 0 0 w V n 39 [(0, va_rf (some a0)), (3, .int x3), (4, .long x4), (6, .int x6), (7, .int x7)] []) : ∀ (V : zV) (n : Nat) (a0 : Nat) (x3 : Int32) (x4 : Int64) (x6 : Int32) (x7 : Int32) (s0 : Int32), fR_play_95 K39 V n a0 x3 x4 x6 x7 s0 = some w → zZ x 10 0 0 w V n 95 [(0, va_rf (some a0)), (3, .int x3), (4, .long x4), (6, .int x6), (7, .int x7)] [.int s0] := by
  intro V n a0 x3 x4 x6 x7 s0 h
  unfold fR_play_95 at h
  refine z_istore (lv' := [(9, .int s0), (0, va_rf (some a0)), (3, .int x3), (4, .long x4), (6, .int x6), (7, .int x7)]) C dR_play_95 (by decide) rfl ?_
  refine z_iload C 4 dR_play_97 rfl ?_
  refine z_iload C 0 dR_play_99 rfl ?_
  refine z_iconst (v := 1) C dR_play_101 (by decide) ?_
  refine z_icmp_ne C 109 dR_play_102 (by decide) h (fun h => ?_) (fun h => ?_)
  · refine z_iconst (v := 0) C dR_play_109 (by decide) ?_
    refine z_sub [1, 2, 3, 5] rfl ?_
    exact bR_play_110 C M hK39 V n a0 x3 x4 x7 x6 (0 : Int32) h
  · refine z_iconst (v := 1) C dR_play_105 (by decide) ?_
    refine z_goto C 110 dR_play_106 (by decide) ?_
    refine z_sub [1, 2, 3, 5] rfl ?_
    exact bR_play_110 C M hK39 V n a0 x3 x4 x7 x6 (1 : Int32) h
def fR_play_39 : Nat → zV → Nat → Nat → Int32 → Int64 → Int32 → Int32 → Option zR
  | 0 => fun _ _ _ _ _ _ _ => none
  | f9 + 1 => fun V n a0 x3 x4 x6 x7 =>
    if x3 ≤ x7 then (
    zrI x6 V n) else (
    (zgI V (some a0) [6] 0).bind fun t1 =>
    if (t1 + (1 : Int32)).toInt64 = 0 then none else
    (zgI V (some a0) [6] 0).bind fun t2 =>
    if (((((6364136223846793005 : Int64) * x4) + (1442695040888963407 : Int64)).toUInt64 >>> ((33 : Int32).toInt64.toUInt64 &&& Int64.toUInt64 63)).toInt64 - ((((6364136223846793005 : Int64) * x4) + (1442695040888963407 : Int64)).toUInt64 >>> ((33 : Int32).toInt64.toUInt64 &&& Int64.toUInt64 63)).toInt64 / (t1 + (1 : Int32)).toInt64 * (t1 + (1 : Int32)).toInt64).toInt32 = t2 then (
    (z_obj V (some a0) [6]).bind fun o => zcI (fR_keeper V n o.1 ) fun t4 V n =>
    fR_play_95 (fR_play_39 f9) V n a0 x3 ((((6364136223846793005 : Int64) * x4) + (1442695040888963407 : Int64))) x6 x7 t4) else (
    (z_obj V (some a0) [6]).bind fun o => zcI (fR_go V n o.1 ((((((6364136223846793005 : Int64) * x4) + (1442695040888963407 : Int64)).toUInt64 >>> ((33 : Int32).toInt64.toUInt64 &&& Int64.toUInt64 63)).toInt64 - ((((6364136223846793005 : Int64) * x4) + (1442695040888963407 : Int64)).toUInt64 >>> ((33 : Int32).toInt64.toUInt64 &&& Int64.toUInt64 63)).toInt64 / (t1 + (1 : Int32)).toInt64 * (t1 + (1 : Int32)).toInt64).toInt32)) fun t3 V n =>
    fR_play_95 (fR_play_39 f9) V n a0 x3 ((((6364136223846793005 : Int64) * x4) + (1442695040888963407 : Int64))) x6 x7 t3))
set_option maxHeartbeats 4000000 in
set_option maxRecDepth 100000 in
theorem bR_play_39 {x : zX} {w : zR} (C : zC x prog_9_method_26_code "BarrierMarksModel" "play" 10 4 94 (some .int)) (M : zM x (zc w) (zs w)) : ∀ (f9 : Nat) (V : zV) (n : Nat) (a0 : Nat) (x3 : Int32) (x4 : Int64) (x6 : Int32) (x7 : Int32), fR_play_39 f9 V n a0 x3 x4 x6 x7 = some w → zZ x 10 0 0 w V n 39 [(0, va_rf (some a0)), (3, .int x3), (4, .long x4), (6, .int x6), (7, .int x7)] [] := by
  intro f9
  induction f9 with
  | zero =>
    intro V n a0 x3 x4 x6 x7 h
    cases h
  | succ f9 ih =>
    intro V n a0 x3 x4 x6 x7 h
    unfold fR_play_39 at h
    refine z_iload C 4 dR_play_39 rfl ?_
    refine z_iload_n C 1 dR_play_41 rfl rfl ?_
    refine z_icmp_ge C 119 dR_play_42 (by decide) h (fun h => ?_) (fun h => ?_)
    · refine z_iload C 3 dR_play_119 rfl ?_
      exact z_iret C M (Nat.zero_le _) (Nat.zero_le _) dR_play_121 h
    · refine z_ldc2 (v := 6364136223846793005) C dR_play_45 kl_R_178 ?_
      refine z_lload C 2 dR_play_48 rfl ?_
      refine z_lmul C dR_play_50 ?_
      refine z_ldc2 (v := 1442695040888963407) C dR_play_51 kl_R_180 ?_
      refine z_ladd C dR_play_54 ?_
      refine z_lstore (lv' := [(4, .long (((6364136223846793005 : Int64) * x4) + (1442695040888963407 : Int64))), (0, va_rf (some a0)), (3, .int x3), (6, .int x6), (7, .int x7)]) C dR_play_55 (by decide) rfl ?_
      refine z_lload C 0 dR_play_57 rfl ?_
      refine z_bipush (v := 33) C dR_play_59 (by decide) ?_
      refine z_lushr C dR_play_61 ?_
      refine z_aload_n C 1 dR_play_62 rfl rfl ?_
      refine z_getI C fl_R_96 dR_play_63 h (fun t1 h => ?_)
      refine z_iconst (v := 1) C dR_play_66 (by decide) ?_
      refine z_iadd C dR_play_67 ?_
      refine z_i2l C dR_play_68 ?_
      by_cases hz9 : (t1 + (1 : Int32)).toInt64 = 0
      · rw [if_pos hz9] at h; cases h
      rw [if_neg hz9] at h
      refine z_lrem C dR_play_69 hz9 ?_
      refine z_l2i C dR_play_70 ?_
      refine z_istore (lv' := [(8, .int (((((6364136223846793005 : Int64) * x4) + (1442695040888963407 : Int64)).toUInt64 >>> ((33 : Int32).toInt64.toUInt64 &&& Int64.toUInt64 63)).toInt64 - ((((6364136223846793005 : Int64) * x4) + (1442695040888963407 : Int64)).toUInt64 >>> ((33 : Int32).toInt64.toUInt64 &&& Int64.toUInt64 63)).toInt64 / (t1 + (1 : Int32)).toInt64 * (t1 + (1 : Int32)).toInt64).toInt32), (4, .long (((6364136223846793005 : Int64) * x4) + (1442695040888963407 : Int64))), (0, va_rf (some a0)), (3, .int x3), (6, .int x6), (7, .int x7)]) C dR_play_71 (by decide) rfl ?_
      refine z_iload C 0 dR_play_73 rfl ?_
      refine z_aload_n C 2 dR_play_75 rfl rfl ?_
      refine z_getI C fl_R_96 dR_play_76 h (fun t2 h => ?_)
      refine z_icmp_ne C 89 dR_play_79 (by decide) h (fun h => ?_) (fun h => ?_)
      · refine z_aload_n C 2 dR_play_89 rfl rfl ?_
        refine z_iload C 0 dR_play_90 rfl ?_
        refine z_vPI (ci := 6) C M zRmP [.int ((((((6364136223846793005 : Int64) * x4) + (1442695040888963407 : Int64)).toUInt64 >>> ((33 : Int32).toInt64.toUInt64 &&& Int64.toUInt64 63)).toInt64 - ((((6364136223846793005 : Int64) * x4) + (1442695040888963407 : Int64)).toUInt64 >>> ((33 : Int32).toInt64.toUInt64 &&& Int64.toUInt64 63)).toInt64 / (t1 + (1 : Int32)).toInt64 * (t1 + (1 : Int32)).toInt64).toInt32)] cv_R_153 rfl (by decide) (by decide) rfl rfl (Nat.zero_le _) dR_play_92 (fun b => fR_go V n b ((((((6364136223846793005 : Int64) * x4) + (1442695040888963407 : Int64)).toUInt64 >>> ((33 : Int32).toInt64.toUInt64 &&& Int64.toUInt64 63)).toInt64 - ((((6364136223846793005 : Int64) * x4) + (1442695040888963407 : Int64)).toUInt64 >>> ((33 : Int32).toInt64.toUInt64 &&& Int64.toUInt64 63)).toInt64 / (t1 + (1 : Int32)).toInt64 * (t1 + (1 : Int32)).toInt64).toInt32)) h (fun b w1 e1 l D dA hl => mR_go hl e1) (fun t3 V n h => ?_)
        refine z_sub [2, 3, 1, 4, 5] rfl ?_
        exact bR_play_95 C M ih V n a0 x3 ((((6364136223846793005 : Int64) * x4) + (1442695040888963407 : Int64))) x6 x7 t3 h
      · refine z_aload_n C 2 dR_play_82 rfl rfl ?_
        refine z_vPI (ci := 6) C M zRmP [] cv_R_150 rfl (by decide) (by decide) rfl rfl (Nat.zero_le _) dR_play_83 (fun b => fR_keeper V n b ) h (fun b w1 e1 l D dA hl => mR_keeper hl e1) (fun t4 V n h => ?_)
        refine z_goto C 95 dR_play_86 (by decide) ?_
        refine z_sub [2, 3, 1, 4, 5] rfl ?_
        exact bR_play_95 C M ih V n a0 x3 ((((6364136223846793005 : Int64) * x4) + (1442695040888963407 : Int64))) x6 x7 t4 h
def fR_play_18 (V : zV) (n : Nat) (a0 : Nat) (x1 : Int64) (x3 : Int32) (s0 : Option Nat) (s1 : Int32) : Option zR :=
    (zpI V s0 [6] 1 s1).bind fun V =>
    (zgI V (some a0) [6] 1).bind fun t1 =>
    if t1 ≤ 0 then (
    fR_play_39 zF V n a0 x3 x1 (0 : Int32) (0 : Int32)) else (
    zrI (0 : Int32) V n)
set_option maxHeartbeats 4000000 in
set_option maxRecDepth 100000 in
theorem bR_play_18 {x : zX} {w : zR} (C : zC x prog_9_method_26_code "BarrierMarksModel" "play" 10 4 94 (some .int)) (M : zM x (zc w) (zs w)) : ∀ (V : zV) (n : Nat) (a0 : Nat) (x1 : Int64) (x3 : Int32) (s0 : Option Nat) (s1 : Int32), fR_play_18 V n a0 x1 x3 s0 s1 = some w → zZ x 10 0 0 w V n 18 [(0, va_rf (some a0)), (1, .long x1), (3, .int x3)] [.int s1, va_rf s0] := by
  intro V n a0 x1 x3 s0 s1 h
  unfold fR_play_18 at h
  refine z_putI C pf_R_100 (fun h => absurd h (by decide)) dR_play_18 h (fun V h => ?_)
  refine z_aload_n C 0 dR_play_21 rfl rfl ?_
  refine z_getI C fl_R_100 dR_play_22 h (fun t1 h => ?_)
  refine z_if_le C 30 dR_play_25 (by decide) h (fun h => ?_) (fun h => ?_)
  · refine z_lload_n C 1 dR_play_30 rfl rfl ?_
    refine z_lstore (lv' := [(4, .long x1), (0, va_rf (some a0)), (1, .long x1), (3, .int x3)]) C dR_play_31 (by decide) rfl ?_
    refine z_iconst (v := 0) C dR_play_33 (by decide) ?_
    refine z_istore (lv' := [(6, .int (0 : Int32)), (4, .long x1), (0, va_rf (some a0)), (1, .long x1), (3, .int x3)]) C dR_play_34 (by decide) rfl ?_
    refine z_iconst (v := 0) C dR_play_36 (by decide) ?_
    refine z_istore (lv' := [(7, .int (0 : Int32)), (6, .int (0 : Int32)), (4, .long x1), (0, va_rf (some a0)), (1, .long x1), (3, .int x3)]) C dR_play_37 (by decide) rfl ?_
    refine z_sub [3, 5, 2, 1, 0] rfl ?_
    exact bR_play_39 C M zF V n a0 x3 x1 (0 : Int32) (0 : Int32) h
  · refine z_iconst (v := 0) C dR_play_28 (by decide) ?_
    exact z_iret C M (Nat.zero_le _) (Nat.zero_le _) dR_play_29 h
def fR_play_13 (V : zV) (n : Nat) (a0 : Nat) (x1 : Int64) (x3 : Int32) (s0 : Option Nat) : Option zR :=
    fR_play_18 V n a0 x1 x3 s0 (1 : Int32)
set_option maxHeartbeats 4000000 in
set_option maxRecDepth 100000 in
theorem bR_play_13 {x : zX} {w : zR} (C : zC x prog_9_method_26_code "BarrierMarksModel" "play" 10 4 94 (some .int)) (M : zM x (zc w) (zs w)) : ∀ (V : zV) (n : Nat) (a0 : Nat) (x1 : Int64) (x3 : Int32) (s0 : Option Nat), fR_play_13 V n a0 x1 x3 s0 = some w → zZ x 10 0 0 w V n 13 [(0, va_rf (some a0)), (1, .long x1), (3, .int x3)] [va_rf s0] := by
  intro V n a0 x1 x3 s0 h
  unfold fR_play_13 at h
  refine z_iconst (v := 1) C dR_play_13 (by decide) ?_
  refine z_goto C 18 dR_play_14 (by decide) ?_
  exact bR_play_18 C M V n a0 x1 x3 s0 (1 : Int32) h
def fR_play (V : zV) (n : Nat) (a0 : Nat) (x1 : Int64) (x3 : Int32) : Option zR :=
    if x3 < (1 : Int32) then (
    fR_play_13 V n a0 x1 x3 (some a0)) else (
    if x3 ≤ (2000 : Int32) then (
    fR_play_18 V n a0 x1 x3 (some a0) (0 : Int32)) else (
    fR_play_13 V n a0 x1 x3 (some a0)))
set_option maxHeartbeats 4000000 in
set_option maxRecDepth 100000 in
theorem bR_play {x : zX} {w : zR} (C : zC x prog_9_method_26_code "BarrierMarksModel" "play" 10 4 94 (some .int)) (M : zM x (zc w) (zs w)) : ∀ (V : zV) (n : Nat) (a0 : Nat) (x1 : Int64) (x3 : Int32), fR_play V n a0 x1 x3 = some w → zZ x 10 0 0 w V n 0 [(0, va_rf (some a0)), (1, .long x1), (3, .int x3)] [] := by
  intro V n a0 x1 x3 h
  unfold fR_play at h
  refine z_aload_n C 0 dR_play_0 rfl rfl ?_
  refine z_iload_n C 2 dR_play_1 rfl rfl ?_
  refine z_iconst (v := 1) C dR_play_2 (by decide) ?_
  refine z_icmp_lt C 13 dR_play_3 (by decide) h (fun h => ?_) (fun h => ?_)
  · exact bR_play_13 C M V n a0 x1 x3 (some a0) h
  · refine z_iload_n C 2 dR_play_6 rfl rfl ?_
    refine z_sipush (v := 2000) C dR_play_7 (by decide) ?_
    refine z_icmp_le C 17 dR_play_10 (by decide) h (fun h => ?_) (fun h => ?_)
    · refine z_iconst (v := 0) C dR_play_17 (by decide) ?_
      exact bR_play_18 C M V n a0 x1 x3 (some a0) (0 : Int32) h
    · exact bR_play_13 C M V n a0 x1 x3 (some a0) h
theorem mR_play {l : Launch} {D : va_G} {dA : Nat → ClassId} {V : zV} {n : Nat} (hl : l.stackTraces = false) {a0 : Nat} {x1 : Int64} {x3 : Int32} {w : zR} (h : fR_play V n a0 x1 x3 = some w) : z_Met l ⟨"BarrierMarksModel", "play", "(JI)I"⟩ prog_9_method_26_code 10 (some .int) 4 94 (zc w) (zs w) [.ref a0, .long x1, .int x3] D dA V n w := by exact z_ofZ hl (by decide) (Nat.le_of_ble_eq_true rfl) (fun x C M => bR_play C M V n a0 x1 x3 h)
/-! BarrierMarksModel.isMark(I)Z -/
def fR_isMark_16 (V : zV) (n : Nat) : Option zR :=
    zrZ (0 : Int32) V n
set_option maxHeartbeats 4000000 in
set_option maxRecDepth 100000 in
theorem bR_isMark_16 {x : zX} {w : zR} (C : zC x prog_9_method_5_code "BarrierMarksModel" "isMark" 2 0 0 (some .boolean)) (M : zM x (zc w) (zs w)) : ∀ (V : zV) (n : Nat), fR_isMark_16 V n = some w → zZ x 2 0 0 w V n 16 [] [] := by
  intro V n h
  unfold fR_isMark_16 at h
  refine z_iconst (v := 0) C dR_isMark_16 (by decide) ?_
  exact z_zret C M (Nat.zero_le _) (Nat.zero_le _) dR_isMark_17 h
def fR_isMark (V : zV) (n : Nat) (a0 : Nat) (x1 : Int32) : Option zR :=
    if x1 < 0 then (
    fR_isMark_16 V n) else (
    (zgI V (some a0) [6] 19).bind fun t1 =>
    if t1 ≤ x1 then (
    fR_isMark_16 V n) else (
    zrZ (1 : Int32) V n))
set_option maxHeartbeats 4000000 in
set_option maxRecDepth 100000 in
theorem bR_isMark {x : zX} {w : zR} (C : zC x prog_9_method_5_code "BarrierMarksModel" "isMark" 2 0 0 (some .boolean)) (M : zM x (zc w) (zs w)) : ∀ (V : zV) (n : Nat) (a0 : Nat) (x1 : Int32), fR_isMark V n a0 x1 = some w → zZ x 2 0 0 w V n 0 [(0, va_rf (some a0)), (1, .int x1)] [] := by
  intro V n a0 x1 h
  unfold fR_isMark at h
  refine z_iload_n C 1 dR_isMark_0 rfl rfl ?_
  refine z_if_lt C 16 dR_isMark_1 (by decide) h (fun h => ?_) (fun h => ?_)
  · refine z_sub [] rfl ?_
    exact bR_isMark_16 C M V n h
  · refine z_iload_n C 1 dR_isMark_4 rfl rfl ?_
    refine z_aload_n C 0 dR_isMark_5 rfl rfl ?_
    refine z_getI C fl_R_106 dR_isMark_6 h (fun t1 h => ?_)
    refine z_icmp_ge C 16 dR_isMark_9 (by decide) h (fun h => ?_) (fun h => ?_)
    · refine z_sub [] rfl ?_
      exact bR_isMark_16 C M V n h
    · refine z_iconst (v := 1) C dR_isMark_12 (by decide) ?_
      refine z_goto C 17 dR_isMark_13 (by decide) ?_
      exact z_zret C M (Nat.zero_le _) (Nat.zero_le _) dR_isMark_17 h
theorem mR_isMark {l : Launch} {D : va_G} {dA : Nat → ClassId} {V : zV} {n : Nat} (hl : l.stackTraces = false) {a0 : Nat} {x1 : Int32} {w : zR} (h : fR_isMark V n a0 x1 = some w) : z_Met l ⟨"BarrierMarksModel", "isMark", "(I)Z"⟩ prog_9_method_5_code 2 (some .boolean) 0 0 (zc w) (zs w) [.ref a0, .int x1] D dA V n w := by exact z_ofZ hl (by decide) (Nat.le_of_ble_eq_true rfl) (fun x C M => bR_isMark C M V n a0 x1 h)
/-! BarrierMarksModel.giveUp(I)I -/
def fR_giveUp_27 (V : zV) (n : Nat) (a0 : Nat) (x1 : Int32) (s0 : Option Nat) (s1 : Int32) : Option zR :=
    (zpI V s0 [6] 1 s1).bind fun V =>
    (zgI V (some a0) [6] 1).bind fun t1 =>
    if t1 ≤ 0 then (
    (z_obj V (some a0) [6]).bind fun o => zcV (fR_close V n o.1 x1 (2 : Int32)) fun V n =>
    (z_obj V (some a0) [6]).bind fun o => zcI (fR_count V n o.1 x1) fun t2 V n =>
    zrI t2 V n) else (
    zrI (0 : Int32) V n)
set_option maxHeartbeats 4000000 in
set_option maxRecDepth 100000 in
theorem bR_giveUp_27 {x : zX} {w : zR} (C : zC x prog_9_method_28_code "BarrierMarksModel" "giveUp" 2 2 47 (some .int)) (M : zM x (zc w) (zs w)) : ∀ (V : zV) (n : Nat) (a0 : Nat) (x1 : Int32) (s0 : Option Nat) (s1 : Int32), fR_giveUp_27 V n a0 x1 s0 s1 = some w → zZ x 2 0 0 w V n 27 [(0, va_rf (some a0)), (1, .int x1)] [.int s1, va_rf s0] := by
  intro V n a0 x1 s0 s1 h
  unfold fR_giveUp_27 at h
  refine z_putI C pf_R_100 (fun h => absurd h (by decide)) dR_giveUp_27 h (fun V h => ?_)
  refine z_aload_n C 0 dR_giveUp_30 rfl rfl ?_
  refine z_getI C fl_R_100 dR_giveUp_31 h (fun t1 h => ?_)
  refine z_if_le C 39 dR_giveUp_34 (by decide) h (fun h => ?_) (fun h => ?_)
  · refine z_aload_n C 0 dR_giveUp_39 rfl rfl ?_
    refine z_iload_n C 1 dR_giveUp_40 rfl rfl ?_
    refine z_iconst (v := 2) C dR_giveUp_41 (by decide) ?_
    refine z_vPV (ci := 6) C M zRmP [.int x1, .int (2 : Int32)] cv_R_159 rfl (by decide) (by decide) rfl rfl (Nat.zero_le _) dR_giveUp_42 (fun b => fR_close V n b x1 (2 : Int32)) h (fun b w1 e1 l D dA hl => mR_close hl e1) (fun V n h => ?_)
    refine z_aload_n C 0 dR_giveUp_45 rfl rfl ?_
    refine z_iload_n C 1 dR_giveUp_46 rfl rfl ?_
    refine z_vPI (ci := 6) C M zRmP [.int x1] cv_R_156 rfl (by decide) (by decide) rfl rfl (Nat.zero_le _) dR_giveUp_47 (fun b => fR_count V n b x1) h (fun b w1 e1 l D dA hl => mR_count hl e1) (fun t2 V n h => ?_)
    exact z_iret C M (Nat.zero_le _) (Nat.zero_le _) dR_giveUp_50 h
  · refine z_iconst (v := 0) C dR_giveUp_37 (by decide) ?_
    exact z_iret C M (Nat.zero_le _) (Nat.zero_le _) dR_giveUp_38 h
def fR_giveUp (V : zV) (n : Nat) (a0 : Nat) (x1 : Int32) : Option zR :=
    (z_obj V (some a0) [6]).bind fun o => zcI (fR_isMark V n o.1 x1) fun t1 V n =>
    if t1 = 0 then (
    fR_giveUp_27 V n a0 x1 (some a0) (1 : Int32)) else (
    (zgR V (some a0) [6] 20).bind fun t2 =>
    (zaI V t2 0 x1).bind fun t3 =>
    if t3 = 0 then (
    fR_giveUp_27 V n a0 x1 (some a0) (0 : Int32)) else (
    fR_giveUp_27 V n a0 x1 (some a0) (2 : Int32)))
set_option maxHeartbeats 4000000 in
set_option maxRecDepth 100000 in
theorem bR_giveUp {x : zX} {w : zR} (C : zC x prog_9_method_28_code "BarrierMarksModel" "giveUp" 2 2 47 (some .int)) (M : zM x (zc w) (zs w)) : ∀ (V : zV) (n : Nat) (a0 : Nat) (x1 : Int32), fR_giveUp V n a0 x1 = some w → zZ x 2 0 0 w V n 0 [(0, va_rf (some a0)), (1, .int x1)] [] := by
  intro V n a0 x1 h
  unfold fR_giveUp at h
  refine z_aload_n C 0 dR_giveUp_0 rfl rfl ?_
  refine z_aload_n C 0 dR_giveUp_1 rfl rfl ?_
  refine z_iload_n C 1 dR_giveUp_2 rfl rfl ?_
  refine z_vPI (ci := 6) C M zRmP [.int x1] cv_R_182 rfl (by decide) (by decide) rfl rfl (by first | decide | (simp [zrfcat, zicat, zlcat]; done)) dR_giveUp_3 (fun b => fR_isMark V n b x1) h (fun b w1 e1 l D dA hl => mR_isMark hl e1) (fun t1 V n h => ?_)
  refine z_if_ne C 13 dR_giveUp_6 (by decide) h (fun h => ?_) (fun h => ?_)
  · refine z_aload_n C 0 dR_giveUp_13 rfl rfl ?_
    refine z_getR C fl_R_57 dR_giveUp_14 h (fun t2 h => ?_)
    refine z_iload_n C 1 dR_giveUp_17 rfl rfl ?_
    refine z_iald C rfl dR_giveUp_18 h (fun t3 h => ?_)
    refine z_if_eq C 26 dR_giveUp_19 (by decide) h (fun h => ?_) (fun h => ?_)
    · refine z_iconst (v := 0) C dR_giveUp_26 (by decide) ?_
      exact bR_giveUp_27 C M V n a0 x1 (some a0) (0 : Int32) h
    · refine z_iconst (v := 2) C dR_giveUp_22 (by decide) ?_
      refine z_goto C 27 dR_giveUp_23 (by decide) ?_
      exact bR_giveUp_27 C M V n a0 x1 (some a0) (2 : Int32) h
  · refine z_iconst (v := 1) C dR_giveUp_9 (by decide) ?_
    refine z_goto C 27 dR_giveUp_10 (by decide) ?_
    exact bR_giveUp_27 C M V n a0 x1 (some a0) (1 : Int32) h
theorem mR_giveUp {l : Launch} {D : va_G} {dA : Nat → ClassId} {V : zV} {n : Nat} (hl : l.stackTraces = false) {a0 : Nat} {x1 : Int32} {w : zR} (h : fR_giveUp V n a0 x1 = some w) : z_Met l ⟨"BarrierMarksModel", "giveUp", "(I)I"⟩ prog_9_method_28_code 2 (some .int) 2 47 (zc w) (zs w) [.ref a0, .int x1] D dA V n w := by exact z_ofZ hl (by decide) (Nat.le_of_ble_eq_true rfl) (fun x C M => bR_giveUp C M V n a0 x1 h)
/-! BarrierMarksModel.fails(II)V -/
def fR_fails_63 (V : zV) (n : Nat) (a0 : Nat) (x1 : Int32) (x2 : Int32) (s0 : Option Nat) (s1 : Int32) : Option zR :=
    (zpI V s0 [6] 1 s1).bind fun V =>
    (zgI V (some a0) [6] 1).bind fun t1 =>
    if t1 = 0 then (
    (zgR V (some a0) [6] 27).bind fun t2 =>
    (zsZ V t2 2 ((((8 : Int32) * x2) + x1)) (1 : Int32)).bind fun V =>
    zrV V n) else (
    zrV V n)
set_option maxHeartbeats 4000000 in
set_option maxRecDepth 100000 in
theorem bR_fails_63 {x : zX} {w : zR} (C : zC x prog_9_method_29_code "BarrierMarksModel" "fails" 3 1 21 none) (M : zM x (zc w) (zs w)) : ∀ (V : zV) (n : Nat) (a0 : Nat) (x1 : Int32) (x2 : Int32) (s0 : Option Nat) (s1 : Int32), fR_fails_63 V n a0 x1 x2 s0 s1 = some w → zZ x 3 0 0 w V n 63 [(0, va_rf (some a0)), (1, .int x1), (2, .int x2)] [.int s1, va_rf s0] := by
  intro V n a0 x1 x2 s0 s1 h
  unfold fR_fails_63 at h
  refine z_putI C pf_R_100 (fun h => absurd h (by decide)) dR_fails_63 h (fun V h => ?_)
  refine z_aload_n C 0 dR_fails_66 rfl rfl ?_
  refine z_getI C fl_R_100 dR_fails_67 h (fun t1 h => ?_)
  refine z_if_ne C 85 dR_fails_70 (by decide) h (fun h => ?_) (fun h => ?_)
  · exact z_vret C M (Nat.zero_le _) (Nat.zero_le _) dR_fails_85 h
  · refine z_aload_n C 0 dR_fails_73 rfl rfl ?_
    refine z_getR C fl_R_78 dR_fails_74 h (fun t2 h => ?_)
    refine z_bipush (v := 8) C dR_fails_77 (by decide) ?_
    refine z_iload_n C 2 dR_fails_79 rfl rfl ?_
    refine z_imul C dR_fails_80 ?_
    refine z_iload_n C 1 dR_fails_81 rfl rfl ?_
    refine z_iadd C dR_fails_82 ?_
    refine z_iconst (v := 1) C dR_fails_83 (by decide) ?_
    refine z_zast C rfl dR_fails_84 h (fun V h => ?_)
    exact z_vret C M (Nat.zero_le _) (Nat.zero_le _) dR_fails_85 h
def fR_fails_17 (V : zV) (n : Nat) (a0 : Nat) (x1 : Int32) (x2 : Int32) (s0 : Option Nat) : Option zR :=
    fR_fails_63 V n a0 x1 x2 s0 (1 : Int32)
set_option maxHeartbeats 4000000 in
set_option maxRecDepth 100000 in
theorem bR_fails_17 {x : zX} {w : zR} (C : zC x prog_9_method_29_code "BarrierMarksModel" "fails" 3 1 21 none) (M : zM x (zc w) (zs w)) : ∀ (V : zV) (n : Nat) (a0 : Nat) (x1 : Int32) (x2 : Int32) (s0 : Option Nat), fR_fails_17 V n a0 x1 x2 s0 = some w → zZ x 3 0 0 w V n 17 [(0, va_rf (some a0)), (1, .int x1), (2, .int x2)] [va_rf s0] := by
  intro V n a0 x1 x2 s0 h
  unfold fR_fails_17 at h
  refine z_iconst (v := 1) C dR_fails_17 (by decide) ?_
  refine z_goto C 63 dR_fails_18 (by decide) ?_
  exact bR_fails_63 C M V n a0 x1 x2 s0 (1 : Int32) h
def fR_fails_58 (V : zV) (n : Nat) (a0 : Nat) (x1 : Int32) (x2 : Int32) (s0 : Option Nat) : Option zR :=
    fR_fails_63 V n a0 x1 x2 s0 (2 : Int32)
set_option maxHeartbeats 4000000 in
set_option maxRecDepth 100000 in
theorem bR_fails_58 {x : zX} {w : zR} (C : zC x prog_9_method_29_code "BarrierMarksModel" "fails" 3 1 21 none) (M : zM x (zc w) (zs w)) : ∀ (V : zV) (n : Nat) (a0 : Nat) (x1 : Int32) (x2 : Int32) (s0 : Option Nat), fR_fails_58 V n a0 x1 x2 s0 = some w → zZ x 3 0 0 w V n 58 [(0, va_rf (some a0)), (1, .int x1), (2, .int x2)] [va_rf s0] := by
  intro V n a0 x1 x2 s0 h
  unfold fR_fails_58 at h
  refine z_iconst (v := 2) C dR_fails_58 (by decide) ?_
  refine z_goto C 63 dR_fails_59 (by decide) ?_
  exact bR_fails_63 C M V n a0 x1 x2 s0 (2 : Int32) h
def fR_fails (V : zV) (n : Nat) (a0 : Nat) (x1 : Int32) (x2 : Int32) : Option zR :=
    (z_obj V (some a0) [6]).bind fun o => zcI (fR_isTask V n o.1 x1) fun t1 V n =>
    if t1 = 0 then (
    fR_fails_17 V n a0 x1 x2 (some a0)) else (
    (z_obj V (some a0) [6]).bind fun o => zcI (fR_isMark V n o.1 x2) fun t2 V n =>
    if t2 = 0 then (
    fR_fails_17 V n a0 x1 x2 (some a0)) else (
    (zgR V (some a0) [6] 20).bind fun t3 =>
    (zaI V t3 0 x2).bind fun t4 =>
    if t4 = 0 then (
    (zgR V (some a0) [6] 23).bind fun t5 =>
    (zaI V t5 2 ((((8 : Int32) * x2) + x1))).bind fun t6 =>
    if t6 = 0 then (
    (zgR V (some a0) [6] 27).bind fun t7 =>
    (zaI V t7 2 ((((8 : Int32) * x2) + x1))).bind fun t8 =>
    if t8 = 0 then (
    fR_fails_63 V n a0 x1 x2 (some a0) (0 : Int32)) else (
    fR_fails_58 V n a0 x1 x2 (some a0))) else (
    fR_fails_58 V n a0 x1 x2 (some a0))) else (
    fR_fails_58 V n a0 x1 x2 (some a0))))
set_option maxHeartbeats 4000000 in
set_option maxRecDepth 100000 in
theorem bR_fails {x : zX} {w : zR} (C : zC x prog_9_method_29_code "BarrierMarksModel" "fails" 3 1 21 none) (M : zM x (zc w) (zs w)) : ∀ (V : zV) (n : Nat) (a0 : Nat) (x1 : Int32) (x2 : Int32), fR_fails V n a0 x1 x2 = some w → zZ x 3 0 0 w V n 0 [(0, va_rf (some a0)), (1, .int x1), (2, .int x2)] [] := by
  intro V n a0 x1 x2 h
  unfold fR_fails at h
  refine z_aload_n C 0 dR_fails_0 rfl rfl ?_
  refine z_aload_n C 0 dR_fails_1 rfl rfl ?_
  refine z_iload_n C 1 dR_fails_2 rfl rfl ?_
  refine z_vPI (ci := 6) C M zRmP [.int x1] cv_R_109 rfl (by decide) (by decide) rfl rfl (by first | decide | (simp [zrfcat, zicat, zlcat]; done)) dR_fails_3 (fun b => fR_isTask V n b x1) h (fun b w1 e1 l D dA hl => mR_isTask hl e1) (fun t1 V n h => ?_)
  refine z_if_eq C 17 dR_fails_6 (by decide) h (fun h => ?_) (fun h => ?_)
  · exact bR_fails_17 C M V n a0 x1 x2 (some a0) h
  · refine z_aload_n C 0 dR_fails_9 rfl rfl ?_
    refine z_iload_n C 2 dR_fails_10 rfl rfl ?_
    refine z_vPI (ci := 6) C M zRmP [.int x2] cv_R_182 rfl (by decide) (by decide) rfl rfl (by first | decide | (simp [zrfcat, zicat, zlcat]; done)) dR_fails_11 (fun b => fR_isMark V n b x2) h (fun b w1 e1 l D dA hl => mR_isMark hl e1) (fun t2 V n h => ?_)
    refine z_if_ne C 21 dR_fails_14 (by decide) h (fun h => ?_) (fun h => ?_)
    · refine z_aload_n C 0 dR_fails_21 rfl rfl ?_
      refine z_getR C fl_R_57 dR_fails_22 h (fun t3 h => ?_)
      refine z_iload_n C 2 dR_fails_25 rfl rfl ?_
      refine z_iald C rfl dR_fails_26 h (fun t4 h => ?_)
      refine z_if_ne C 58 dR_fails_27 (by decide) h (fun h => ?_) (fun h => ?_)
      · exact bR_fails_58 C M V n a0 x1 x2 (some a0) h
      · refine z_aload_n C 0 dR_fails_30 rfl rfl ?_
        refine z_getR C fl_R_66 dR_fails_31 h (fun t5 h => ?_)
        refine z_bipush (v := 8) C dR_fails_34 (by decide) ?_
        refine z_iload_n C 2 dR_fails_36 rfl rfl ?_
        refine z_imul C dR_fails_37 ?_
        refine z_iload_n C 1 dR_fails_38 rfl rfl ?_
        refine z_iadd C dR_fails_39 ?_
        refine z_zald C rfl dR_fails_40 h (fun t6 h => ?_)
        refine z_if_ne C 58 dR_fails_41 (by decide) h (fun h => ?_) (fun h => ?_)
        · exact bR_fails_58 C M V n a0 x1 x2 (some a0) h
        · refine z_aload_n C 0 dR_fails_44 rfl rfl ?_
          refine z_getR C fl_R_78 dR_fails_45 h (fun t7 h => ?_)
          refine z_bipush (v := 8) C dR_fails_48 (by decide) ?_
          refine z_iload_n C 2 dR_fails_50 rfl rfl ?_
          refine z_imul C dR_fails_51 ?_
          refine z_iload_n C 1 dR_fails_52 rfl rfl ?_
          refine z_iadd C dR_fails_53 ?_
          refine z_zald C rfl dR_fails_54 h (fun t8 h => ?_)
          refine z_if_eq C 62 dR_fails_55 (by decide) h (fun h => ?_) (fun h => ?_)
          · refine z_iconst (v := 0) C dR_fails_62 (by decide) ?_
            exact bR_fails_63 C M V n a0 x1 x2 (some a0) (0 : Int32) h
          · exact bR_fails_58 C M V n a0 x1 x2 (some a0) h
    · exact bR_fails_17 C M V n a0 x1 x2 (some a0) h
theorem mR_fails {l : Launch} {D : va_G} {dA : Nat → ClassId} {V : zV} {n : Nat} (hl : l.stackTraces = false) {a0 : Nat} {x1 : Int32} {x2 : Int32} {w : zR} (h : fR_fails V n a0 x1 x2 = some w) : z_Met l ⟨"BarrierMarksModel", "fails", "(II)V"⟩ prog_9_method_29_code 3 none 1 21 (zc w) (zs w) [.ref a0, .int x1, .int x2] D dA V n w := by exact z_ofZ hl (by decide) (Nat.le_of_ble_eq_true rfl) (fun x C M => bR_fails C M V n a0 x1 x2 h)
/-! BarrierMarksModel.again(II)I -/
def fR_again_59 (V : zV) (n : Nat) (a0 : Nat) (x1 : Int32) (x2 : Int32) (s0 : Option Nat) (s1 : Int32) : Option zR :=
    (zpI V s0 [6] 1 s1).bind fun V =>
    (zgI V (some a0) [6] 1).bind fun t1 =>
    if t1 ≤ 0 then (
    (z_obj V (some a0) [6]).bind fun o => zcV (fR_sent V n o.1 x1 x2) fun V n =>
    (zgI V (some a0) [6] 29).bind fun t2 =>
    zrI t2 V n) else (
    zrI (0 : Int32) V n)
set_option maxHeartbeats 4000000 in
set_option maxRecDepth 100000 in
theorem bR_again_59 {x : zX} {w : zR} (C : zC x prog_9_method_30_code "BarrierMarksModel" "again" 3 1 22 (some .int)) (M : zM x (zc w) (zs w)) : ∀ (V : zV) (n : Nat) (a0 : Nat) (x1 : Int32) (x2 : Int32) (s0 : Option Nat) (s1 : Int32), fR_again_59 V n a0 x1 x2 s0 s1 = some w → zZ x 3 0 0 w V n 59 [(0, va_rf (some a0)), (1, .int x1), (2, .int x2)] [.int s1, va_rf s0] := by
  intro V n a0 x1 x2 s0 s1 h
  unfold fR_again_59 at h
  refine z_putI C pf_R_100 (fun h => absurd h (by decide)) dR_again_59 h (fun V h => ?_)
  refine z_aload_n C 0 dR_again_62 rfl rfl ?_
  refine z_getI C fl_R_100 dR_again_63 h (fun t1 h => ?_)
  refine z_if_le C 71 dR_again_66 (by decide) h (fun h => ?_) (fun h => ?_)
  · refine z_aload_n C 0 dR_again_71 rfl rfl ?_
    refine z_iload_n C 1 dR_again_72 rfl rfl ?_
    refine z_iload_n C 2 dR_again_73 rfl rfl ?_
    refine z_vPV (ci := 6) C M zRmP [.int x1, .int x2] cv_R_141 rfl (by decide) (by decide) rfl rfl (Nat.zero_le _) dR_again_74 (fun b => fR_sent V n b x1 x2) h (fun b w1 e1 l D dA hl => mR_sent hl e1) (fun V n h => ?_)
    refine z_aload_n C 0 dR_again_77 rfl rfl ?_
    refine z_getI C fl_R_138 dR_again_78 h (fun t2 h => ?_)
    exact z_iret C M (Nat.zero_le _) (Nat.zero_le _) dR_again_81 h
  · refine z_iconst (v := 0) C dR_again_69 (by decide) ?_
    exact z_iret C M (Nat.zero_le _) (Nat.zero_le _) dR_again_70 h
def fR_again_17 (V : zV) (n : Nat) (a0 : Nat) (x1 : Int32) (x2 : Int32) (s0 : Option Nat) : Option zR :=
    fR_again_59 V n a0 x1 x2 s0 (1 : Int32)
set_option maxHeartbeats 4000000 in
set_option maxRecDepth 100000 in
theorem bR_again_17 {x : zX} {w : zR} (C : zC x prog_9_method_30_code "BarrierMarksModel" "again" 3 1 22 (some .int)) (M : zM x (zc w) (zs w)) : ∀ (V : zV) (n : Nat) (a0 : Nat) (x1 : Int32) (x2 : Int32) (s0 : Option Nat), fR_again_17 V n a0 x1 x2 s0 = some w → zZ x 3 0 0 w V n 17 [(0, va_rf (some a0)), (1, .int x1), (2, .int x2)] [va_rf s0] := by
  intro V n a0 x1 x2 s0 h
  unfold fR_again_17 at h
  refine z_iconst (v := 1) C dR_again_17 (by decide) ?_
  refine z_goto C 59 dR_again_18 (by decide) ?_
  exact bR_again_59 C M V n a0 x1 x2 s0 (1 : Int32) h
def fR_again_54 (V : zV) (n : Nat) (a0 : Nat) (x1 : Int32) (x2 : Int32) (s0 : Option Nat) : Option zR :=
    fR_again_59 V n a0 x1 x2 s0 (2 : Int32)
set_option maxHeartbeats 4000000 in
set_option maxRecDepth 100000 in
theorem bR_again_54 {x : zX} {w : zR} (C : zC x prog_9_method_30_code "BarrierMarksModel" "again" 3 1 22 (some .int)) (M : zM x (zc w) (zs w)) : ∀ (V : zV) (n : Nat) (a0 : Nat) (x1 : Int32) (x2 : Int32) (s0 : Option Nat), fR_again_54 V n a0 x1 x2 s0 = some w → zZ x 3 0 0 w V n 54 [(0, va_rf (some a0)), (1, .int x1), (2, .int x2)] [va_rf s0] := by
  intro V n a0 x1 x2 s0 h
  unfold fR_again_54 at h
  refine z_iconst (v := 2) C dR_again_54 (by decide) ?_
  refine z_goto C 59 dR_again_55 (by decide) ?_
  exact bR_again_59 C M V n a0 x1 x2 s0 (2 : Int32) h
def fR_again (V : zV) (n : Nat) (a0 : Nat) (x1 : Int32) (x2 : Int32) : Option zR :=
    (z_obj V (some a0) [6]).bind fun o => zcI (fR_isTask V n o.1 x2) fun t1 V n =>
    if t1 = 0 then (
    fR_again_17 V n a0 x1 x2 (some a0)) else (
    (z_obj V (some a0) [6]).bind fun o => zcI (fR_isMark V n o.1 x1) fun t2 V n =>
    if t2 = 0 then (
    fR_again_17 V n a0 x1 x2 (some a0)) else (
    (zgR V (some a0) [6] 20).bind fun t3 =>
    (zaI V t3 0 x1).bind fun t4 =>
    if t4 = 0 then (
    (zgR V (some a0) [6] 23).bind fun t5 =>
    (zaI V t5 2 ((((8 : Int32) * x1) + x2))).bind fun t6 =>
    if t6 = 0 then (
    fR_again_54 V n a0 x1 x2 (some a0)) else (
    (zgI V (some a0) [6] 29).bind fun t7 =>
    if t7 < (200 : Int32) then (
    fR_again_59 V n a0 x1 x2 (some a0) (0 : Int32)) else (
    fR_again_54 V n a0 x1 x2 (some a0)))) else (
    fR_again_54 V n a0 x1 x2 (some a0))))
set_option maxHeartbeats 4000000 in
set_option maxRecDepth 100000 in
theorem bR_again {x : zX} {w : zR} (C : zC x prog_9_method_30_code "BarrierMarksModel" "again" 3 1 22 (some .int)) (M : zM x (zc w) (zs w)) : ∀ (V : zV) (n : Nat) (a0 : Nat) (x1 : Int32) (x2 : Int32), fR_again V n a0 x1 x2 = some w → zZ x 3 0 0 w V n 0 [(0, va_rf (some a0)), (1, .int x1), (2, .int x2)] [] := by
  intro V n a0 x1 x2 h
  unfold fR_again at h
  refine z_aload_n C 0 dR_again_0 rfl rfl ?_
  refine z_aload_n C 0 dR_again_1 rfl rfl ?_
  refine z_iload_n C 2 dR_again_2 rfl rfl ?_
  refine z_vPI (ci := 6) C M zRmP [.int x2] cv_R_109 rfl (by decide) (by decide) rfl rfl (by first | decide | (simp [zrfcat, zicat, zlcat]; done)) dR_again_3 (fun b => fR_isTask V n b x2) h (fun b w1 e1 l D dA hl => mR_isTask hl e1) (fun t1 V n h => ?_)
  refine z_if_eq C 17 dR_again_6 (by decide) h (fun h => ?_) (fun h => ?_)
  · exact bR_again_17 C M V n a0 x1 x2 (some a0) h
  · refine z_aload_n C 0 dR_again_9 rfl rfl ?_
    refine z_iload_n C 1 dR_again_10 rfl rfl ?_
    refine z_vPI (ci := 6) C M zRmP [.int x1] cv_R_182 rfl (by decide) (by decide) rfl rfl (by first | decide | (simp [zrfcat, zicat, zlcat]; done)) dR_again_11 (fun b => fR_isMark V n b x1) h (fun b w1 e1 l D dA hl => mR_isMark hl e1) (fun t2 V n h => ?_)
    refine z_if_ne C 21 dR_again_14 (by decide) h (fun h => ?_) (fun h => ?_)
    · refine z_aload_n C 0 dR_again_21 rfl rfl ?_
      refine z_getR C fl_R_57 dR_again_22 h (fun t3 h => ?_)
      refine z_iload_n C 1 dR_again_25 rfl rfl ?_
      refine z_iald C rfl dR_again_26 h (fun t4 h => ?_)
      refine z_if_ne C 54 dR_again_27 (by decide) h (fun h => ?_) (fun h => ?_)
      · exact bR_again_54 C M V n a0 x1 x2 (some a0) h
      · refine z_aload_n C 0 dR_again_30 rfl rfl ?_
        refine z_getR C fl_R_66 dR_again_31 h (fun t5 h => ?_)
        refine z_bipush (v := 8) C dR_again_34 (by decide) ?_
        refine z_iload_n C 1 dR_again_36 rfl rfl ?_
        refine z_imul C dR_again_37 ?_
        refine z_iload_n C 2 dR_again_38 rfl rfl ?_
        refine z_iadd C dR_again_39 ?_
        refine z_zald C rfl dR_again_40 h (fun t6 h => ?_)
        refine z_if_eq C 54 dR_again_41 (by decide) h (fun h => ?_) (fun h => ?_)
        · exact bR_again_54 C M V n a0 x1 x2 (some a0) h
        · refine z_aload_n C 0 dR_again_44 rfl rfl ?_
          refine z_getI C fl_R_138 dR_again_45 h (fun t7 h => ?_)
          refine z_sipush (v := 200) C dR_again_48 (by decide) ?_
          refine z_icmp_lt C 58 dR_again_51 (by decide) h (fun h => ?_) (fun h => ?_)
          · refine z_iconst (v := 0) C dR_again_58 (by decide) ?_
            exact bR_again_59 C M V n a0 x1 x2 (some a0) (0 : Int32) h
          · exact bR_again_54 C M V n a0 x1 x2 (some a0) h
    · exact bR_again_17 C M V n a0 x1 x2 (some a0) h
theorem mR_again {l : Launch} {D : va_G} {dA : Nat → ClassId} {V : zV} {n : Nat} (hl : l.stackTraces = false) {a0 : Nat} {x1 : Int32} {x2 : Int32} {w : zR} (h : fR_again V n a0 x1 x2 = some w) : z_Met l ⟨"BarrierMarksModel", "again", "(II)I"⟩ prog_9_method_30_code 3 (some .int) 1 22 (zc w) (zs w) [.ref a0, .int x1, .int x2] D dA V n w := by exact z_ofZ hl (by decide) (Nat.le_of_ble_eq_true rfl) (fun x C M => bR_again C M V n a0 x1 x2 h)
/-! BarrierMarksModel.restore(I)I -/
def fR_restore_65 (K42 : zV → Nat → Nat → Int32 → Int32 → Option zR) (V : zV) (n : Nat) (a0 : Nat) (x1 : Int32) (x2 : Int32) : Option zR :=
    K42 V n a0 x1 (x2 + 1)
set_option maxHeartbeats 4000000 in
set_option maxRecDepth 100000 in
theorem bR_restore_65 {x : zX} {w : zR} {K42 : zV → Nat → Nat → Int32 → Int32 → Option zR} (C : zC x prog_9_method_31_code "BarrierMarksModel" "restore" 4 2 47 (some .int)) (M : zM x (zc w) (zs w)) (hK42 : ∀ (V : zV) (n : Nat) (a0 : Nat) (x1 : Int32) (x2 : Int32), K42 V n a0 x1 x2 = some w → zZ x 4 0 0 w V n 42 [(0, va_rf (some a0)), (1, .int x1), (2, .int x2)] []) : ∀ (V : zV) (n : Nat) (a0 : Nat) (x1 : Int32) (x2 : Int32), fR_restore_65 K42 V n a0 x1 x2 = some w → zZ x 4 0 0 w V n 65 [(0, va_rf (some a0)), (1, .int x1), (2, .int x2)] [] := by
  intro V n a0 x1 x2 h
  unfold fR_restore_65 at h
  refine z_iinc (lv' := [(2, .int (x2 + 1)), (0, va_rf (some a0)), (1, .int x1)]) C 2 dR_restore_65 rfl rfl (by decide) rfl ?_
  refine z_goto C 42 dR_restore_68 (by decide) ?_
  refine z_sub [1, 2, 0] rfl ?_
  exact hK42 V n a0 x1 (x2 + 1) h
def fR_restore_267 (K154 : zV → Nat → Nat → Int32 → Int32 → Int32 → Option zR) (V : zV) (n : Nat) (a0 : Nat) (x1 : Int32) (x2 : Int32) (x3 : Int32) : Option zR :=
    K154 V n a0 x1 x2 (x3 + 1)
set_option maxHeartbeats 4000000 in
set_option maxRecDepth 100000 in
theorem bR_restore_267 {x : zX} {w : zR} {K154 : zV → Nat → Nat → Int32 → Int32 → Int32 → Option zR} (C : zC x prog_9_method_31_code "BarrierMarksModel" "restore" 4 2 47 (some .int)) (M : zM x (zc w) (zs w)) (hK154 : ∀ (V : zV) (n : Nat) (a0 : Nat) (x1 : Int32) (x2 : Int32) (x3 : Int32), K154 V n a0 x1 x2 x3 = some w → zZ x 4 0 0 w V n 154 [(0, va_rf (some a0)), (1, .int x1), (2, .int x2), (3, .int x3)] []) : ∀ (V : zV) (n : Nat) (a0 : Nat) (x1 : Int32) (x2 : Int32) (x3 : Int32), fR_restore_267 K154 V n a0 x1 x2 x3 = some w → zZ x 4 0 0 w V n 267 [(0, va_rf (some a0)), (1, .int x1), (2, .int x2), (3, .int x3)] [] := by
  intro V n a0 x1 x2 x3 h
  unfold fR_restore_267 at h
  refine z_iinc (lv' := [(3, .int (x3 + 1)), (0, va_rf (some a0)), (1, .int x1), (2, .int x2)]) C 3 dR_restore_267 rfl rfl (by decide) rfl ?_
  refine z_goto C 154 dR_restore_270 (by decide) ?_
  refine z_sub [1, 2, 3, 0] rfl ?_
  exact hK154 V n a0 x1 x2 (x3 + 1) h
def fR_restore_222 (K154 : zV → Nat → Nat → Int32 → Int32 → Int32 → Option zR) (V : zV) (n : Nat) (a0 : Nat) (x1 : Int32) (x2 : Int32) (x3 : Int32) (s0 : Option Nat) (s1 : Int32) (s2 : Int32) : Option zR :=
    (zsZ V s0 2 s1 s2).bind fun V =>
    (z_obj V (some a0) [6]).bind fun o => zcI (fR_isSource V n o.1 x3) fun t1 V n =>
    if t1 = 0 then (
    fR_restore_267 K154 V n a0 x1 x2 x3) else (
    (zgR V (some a0) [6] 16).bind fun t2 =>
    (zgR V (some a0) [6] 21).bind fun t3 =>
    (zaI V t3 0 ((((16 : Int32) * x1) + x3))).bind fun t4 =>
    (zsI V t2 0 x3 t4).bind fun V =>
    (zgR V (some a0) [6] 14).bind fun t5 =>
    (zaI V t5 0 x3).bind fun t6 =>
    (zgR V (some a0) [6] 16).bind fun t7 =>
    (zaI V t7 0 x3).bind fun t8 =>
    fR_restore_267 K154 V n a0 x1 ((x2 + (t6 - t8))) x3)
set_option maxHeartbeats 4000000 in
set_option maxRecDepth 100000 in
theorem bR_restore_222 {x : zX} {w : zR} {K154 : zV → Nat → Nat → Int32 → Int32 → Int32 → Option zR} (C : zC x prog_9_method_31_code "BarrierMarksModel" "restore" 4 2 47 (some .int)) (M : zM x (zc w) (zs w)) (hK154 : ∀ (V : zV) (n : Nat) (a0 : Nat) (x1 : Int32) (x2 : Int32) (x3 : Int32), K154 V n a0 x1 x2 x3 = some w → zZ x 4 0 0 w V n 154 [(0, va_rf (some a0)), (1, .int x1), (2, .int x2), (3, .int x3)] []) : ∀ (V : zV) (n : Nat) (a0 : Nat) (x1 : Int32) (x2 : Int32) (x3 : Int32) (s0 : Option Nat) (s1 : Int32) (s2 : Int32), fR_restore_222 K154 V n a0 x1 x2 x3 s0 s1 s2 = some w → zZ x 4 0 0 w V n 222 [(0, va_rf (some a0)), (1, .int x1), (2, .int x2), (3, .int x3)] [.int s2, .int s1, va_rf s0] := by
  intro V n a0 x1 x2 x3 s0 s1 s2 h
  unfold fR_restore_222 at h
  refine z_zast C rfl dR_restore_222 h (fun V h => ?_)
  refine z_aload_n C 0 dR_restore_223 rfl rfl ?_
  refine z_iload_n C 3 dR_restore_224 rfl rfl ?_
  refine z_vPI (ci := 6) C M zRmP [.int x3] cv_R_127 rfl (by decide) (by decide) rfl rfl (Nat.zero_le _) dR_restore_225 (fun b => fR_isSource V n b x3) h (fun b w1 e1 l D dA hl => mR_isSource hl e1) (fun t1 V n h => ?_)
  refine z_if_ne C 234 dR_restore_228 (by decide) h (fun h => ?_) (fun h => ?_)
  · refine z_aload_n C 0 dR_restore_234 rfl rfl ?_
    refine z_getR C fl_R_48 dR_restore_235 h (fun t2 h => ?_)
    refine z_iload_n C 3 dR_restore_238 rfl rfl ?_
    refine z_aload_n C 0 dR_restore_239 rfl rfl ?_
    refine z_getR C fl_R_60 dR_restore_240 h (fun t3 h => ?_)
    refine z_bipush (v := 16) C dR_restore_243 (by decide) ?_
    refine z_iload_n C 1 dR_restore_245 rfl rfl ?_
    refine z_imul C dR_restore_246 ?_
    refine z_iload_n C 3 dR_restore_247 rfl rfl ?_
    refine z_iadd C dR_restore_248 ?_
    refine z_iald C rfl dR_restore_249 h (fun t4 h => ?_)
    refine z_iast C rfl dR_restore_250 h (fun V h => ?_)
    refine z_iload_n C 2 dR_restore_251 rfl rfl ?_
    refine z_aload_n C 0 dR_restore_252 rfl rfl ?_
    refine z_getR C fl_R_42 dR_restore_253 h (fun t5 h => ?_)
    refine z_iload_n C 3 dR_restore_256 rfl rfl ?_
    refine z_iald C rfl dR_restore_257 h (fun t6 h => ?_)
    refine z_aload_n C 0 dR_restore_258 rfl rfl ?_
    refine z_getR C fl_R_48 dR_restore_259 h (fun t7 h => ?_)
    refine z_iload_n C 3 dR_restore_262 rfl rfl ?_
    refine z_iald C rfl dR_restore_263 h (fun t8 h => ?_)
    refine z_isub C dR_restore_264 ?_
    refine z_iadd C dR_restore_265 ?_
    refine z_istore_n (lv' := [(2, .int (x2 + (t6 - t8))), (0, va_rf (some a0)), (1, .int x1), (3, .int x3)]) (i := 2) C dR_restore_266 rfl (by decide) rfl ?_
    refine z_sub [1, 2, 0, 3] rfl ?_
    exact bR_restore_267 C M hK154 V n a0 x1 ((x2 + (t6 - t8))) x3 h
  · refine z_goto C 267 dR_restore_231 (by decide) ?_
    exact bR_restore_267 C M hK154 V n a0 x1 x2 x3 h
def fR_restore_217 (K154 : zV → Nat → Nat → Int32 → Int32 → Int32 → Option zR) (V : zV) (n : Nat) (a0 : Nat) (x1 : Int32) (x2 : Int32) (x3 : Int32) (s0 : Option Nat) (s1 : Int32) : Option zR :=
    fR_restore_222 K154 V n a0 x1 x2 x3 s0 s1 (1 : Int32)
set_option maxHeartbeats 4000000 in
set_option maxRecDepth 100000 in
theorem bR_restore_217 {x : zX} {w : zR} {K154 : zV → Nat → Nat → Int32 → Int32 → Int32 → Option zR} (C : zC x prog_9_method_31_code "BarrierMarksModel" "restore" 4 2 47 (some .int)) (M : zM x (zc w) (zs w)) (hK154 : ∀ (V : zV) (n : Nat) (a0 : Nat) (x1 : Int32) (x2 : Int32) (x3 : Int32), K154 V n a0 x1 x2 x3 = some w → zZ x 4 0 0 w V n 154 [(0, va_rf (some a0)), (1, .int x1), (2, .int x2), (3, .int x3)] []) : ∀ (V : zV) (n : Nat) (a0 : Nat) (x1 : Int32) (x2 : Int32) (x3 : Int32) (s0 : Option Nat) (s1 : Int32), fR_restore_217 K154 V n a0 x1 x2 x3 s0 s1 = some w → zZ x 4 0 0 w V n 217 [(0, va_rf (some a0)), (1, .int x1), (2, .int x2), (3, .int x3)] [.int s1, va_rf s0] := by
  intro V n a0 x1 x2 x3 s0 s1 h
  unfold fR_restore_217 at h
  refine z_iconst (v := 1) C dR_restore_217 (by decide) ?_
  refine z_goto C 222 dR_restore_218 (by decide) ?_
  exact bR_restore_222 C M hK154 V n a0 x1 x2 x3 s0 s1 (1 : Int32) h
def fR_restore_221 (K154 : zV → Nat → Nat → Int32 → Int32 → Int32 → Option zR) (V : zV) (n : Nat) (a0 : Nat) (x1 : Int32) (x2 : Int32) (x3 : Int32) (s0 : Option Nat) (s1 : Int32) : Option zR :=
    fR_restore_222 K154 V n a0 x1 x2 x3 s0 s1 (0 : Int32)
set_option maxHeartbeats 4000000 in
set_option maxRecDepth 100000 in
theorem bR_restore_221 {x : zX} {w : zR} {K154 : zV → Nat → Nat → Int32 → Int32 → Int32 → Option zR} (C : zC x prog_9_method_31_code "BarrierMarksModel" "restore" 4 2 47 (some .int)) (M : zM x (zc w) (zs w)) (hK154 : ∀ (V : zV) (n : Nat) (a0 : Nat) (x1 : Int32) (x2 : Int32) (x3 : Int32), K154 V n a0 x1 x2 x3 = some w → zZ x 4 0 0 w V n 154 [(0, va_rf (some a0)), (1, .int x1), (2, .int x2), (3, .int x3)] []) : ∀ (V : zV) (n : Nat) (a0 : Nat) (x1 : Int32) (x2 : Int32) (x3 : Int32) (s0 : Option Nat) (s1 : Int32), fR_restore_221 K154 V n a0 x1 x2 x3 s0 s1 = some w → zZ x 4 0 0 w V n 221 [(0, va_rf (some a0)), (1, .int x1), (2, .int x2), (3, .int x3)] [.int s1, va_rf s0] := by
  intro V n a0 x1 x2 x3 s0 s1 h
  unfold fR_restore_221 at h
  refine z_iconst (v := 0) C dR_restore_221 (by decide) ?_
  exact bR_restore_222 C M hK154 V n a0 x1 x2 x3 s0 s1 (0 : Int32) h
def fR_restore_154 : Nat → zV → Nat → Nat → Int32 → Int32 → Int32 → Option zR
  | 0 => fun _ _ _ _ _ _ => none
  | f9 + 1 => fun V n a0 x1 x2 x3 =>
    (zgI V (some a0) [6] 7).bind fun t1 =>
    if t1 ≤ x3 then (
    zrI x2 V n) else (
    (zgR V (some a0) [6] 12).bind fun t2 =>
    (zsI V t2 0 x3 (0 : Int32)).bind fun V =>
    (zgR V (some a0) [6] 18).bind fun t3 =>
    (zsI V t3 0 x3 (-1 : Int32)).bind fun V =>
    (zgR V (some a0) [6] 17).bind fun t4 =>
    (zgR V (some a0) [6] 5).bind fun t5 =>
    (zgR V (some a0) [6] 9).bind fun t6 =>
    (zaI V t6 0 x3).bind fun t7 =>
    (zaI V t5 2 t7).bind fun t8 =>
    if t8 = 0 then (
    (z_obj V (some a0) [6]).bind fun o => zcI (fR_isSource V n o.1 x3) fun t9 V n =>
    if t9 = 0 then (
    (zgR V (some a0) [6] 5).bind fun t10 =>
    (zgR V (some a0) [6] 8).bind fun t11 =>
    (zaI V t11 0 x3).bind fun t12 =>
    (zaI V t10 2 t12).bind fun t13 =>
    if t13 = 0 then (
    fR_restore_221 (fR_restore_154 f9) V n a0 x1 x2 x3 t4 x3) else (
    fR_restore_217 (fR_restore_154 f9) V n a0 x1 x2 x3 t4 x3)) else (
    fR_restore_221 (fR_restore_154 f9) V n a0 x1 x2 x3 t4 x3)) else (
    fR_restore_217 (fR_restore_154 f9) V n a0 x1 x2 x3 t4 x3))
set_option maxHeartbeats 4000000 in
set_option maxRecDepth 100000 in
theorem bR_restore_154 {x : zX} {w : zR} (C : zC x prog_9_method_31_code "BarrierMarksModel" "restore" 4 2 47 (some .int)) (M : zM x (zc w) (zs w)) : ∀ (f9 : Nat) (V : zV) (n : Nat) (a0 : Nat) (x1 : Int32) (x2 : Int32) (x3 : Int32), fR_restore_154 f9 V n a0 x1 x2 x3 = some w → zZ x 4 0 0 w V n 154 [(0, va_rf (some a0)), (1, .int x1), (2, .int x2), (3, .int x3)] [] := by
  intro f9
  induction f9 with
  | zero =>
    intro V n a0 x1 x2 x3 h
    cases h
  | succ f9 ih =>
    intro V n a0 x1 x2 x3 h
    unfold fR_restore_154 at h
    refine z_iload_n C 3 dR_restore_154 rfl rfl ?_
    refine z_aload_n C 0 dR_restore_155 rfl rfl ?_
    refine z_getI C fl_R_103 dR_restore_156 h (fun t1 h => ?_)
    refine z_icmp_ge C 273 dR_restore_159 (by decide) h (fun h => ?_) (fun h => ?_)
    · refine z_iload_n C 2 dR_restore_273 rfl rfl ?_
      exact z_iret C M (Nat.zero_le _) (Nat.zero_le _) dR_restore_274 h
    · refine z_aload_n C 0 dR_restore_162 rfl rfl ?_
      refine z_getR C fl_R_36 dR_restore_163 h (fun t2 h => ?_)
      refine z_iload_n C 3 dR_restore_166 rfl rfl ?_
      refine z_iconst (v := 0) C dR_restore_167 (by decide) ?_
      refine z_iast C rfl dR_restore_168 h (fun V h => ?_)
      refine z_aload_n C 0 dR_restore_169 rfl rfl ?_
      refine z_getR C fl_R_54 dR_restore_170 h (fun t3 h => ?_)
      refine z_iload_n C 3 dR_restore_173 rfl rfl ?_
      refine z_iconst (v := (-1)) C dR_restore_174 (by decide) ?_
      refine z_iast C rfl dR_restore_175 h (fun V h => ?_)
      refine z_aload_n C 0 dR_restore_176 rfl rfl ?_
      refine z_getR C fl_R_51 dR_restore_177 h (fun t4 h => ?_)
      refine z_iload_n C 3 dR_restore_180 rfl rfl ?_
      refine z_aload_n C 0 dR_restore_181 rfl rfl ?_
      refine z_getR C fl_R_17 dR_restore_182 h (fun t5 h => ?_)
      refine z_aload_n C 0 dR_restore_185 rfl rfl ?_
      refine z_getR C fl_R_27 dR_restore_186 h (fun t6 h => ?_)
      refine z_iload_n C 3 dR_restore_189 rfl rfl ?_
      refine z_iald C rfl dR_restore_190 h (fun t7 h => ?_)
      refine z_zald C rfl dR_restore_191 h (fun t8 h => ?_)
      refine z_if_ne C 217 dR_restore_192 (by decide) h (fun h => ?_) (fun h => ?_)
      · exact bR_restore_217 C M ih V n a0 x1 x2 x3 t4 x3 h
      · refine z_aload_n C 0 dR_restore_195 rfl rfl ?_
        refine z_iload_n C 3 dR_restore_196 rfl rfl ?_
        refine z_vPI (ci := 6) C M zRmP [.int x3] cv_R_127 rfl (by decide) (by decide) rfl rfl (by first | decide | (simp [zrfcat, zicat, zlcat]; done)) dR_restore_197 (fun b => fR_isSource V n b x3) h (fun b w1 e1 l D dA hl => mR_isSource hl e1) (fun t9 V n h => ?_)
        refine z_if_ne C 221 dR_restore_200 (by decide) h (fun h => ?_) (fun h => ?_)
        · exact bR_restore_221 C M ih V n a0 x1 x2 x3 t4 x3 h
        · refine z_aload_n C 0 dR_restore_203 rfl rfl ?_
          refine z_getR C fl_R_17 dR_restore_204 h (fun t10 h => ?_)
          refine z_aload_n C 0 dR_restore_207 rfl rfl ?_
          refine z_getR C fl_R_24 dR_restore_208 h (fun t11 h => ?_)
          refine z_iload_n C 3 dR_restore_211 rfl rfl ?_
          refine z_iald C rfl dR_restore_212 h (fun t12 h => ?_)
          refine z_zald C rfl dR_restore_213 h (fun t13 h => ?_)
          refine z_if_eq C 221 dR_restore_214 (by decide) h (fun h => ?_) (fun h => ?_)
          · exact bR_restore_221 C M ih V n a0 x1 x2 x3 t4 x3 h
          · exact bR_restore_217 C M ih V n a0 x1 x2 x3 t4 x3 h
def fR_restore_73 : Nat → zV → Nat → Nat → Int32 → Int32 → Option zR
  | 0 => fun _ _ _ _ _ => none
  | f9 + 1 => fun V n a0 x1 x2 =>
    (zgI V (some a0) [6] 0).bind fun t1 =>
    if t1 ≤ x2 then (
    (zpI V (some a0) [6] 29 (0 : Int32)).bind fun V =>
    fR_restore_154 zF V n a0 x1 (0 : Int32) (0 : Int32)) else (
    (zgR V (some a0) [6] 3).bind fun t2 =>
    (zgR V (some a0) [6] 25).bind fun t3 =>
    (zaL V t3 1 ((((8 : Int32) * x1) + x2))).bind fun t4 =>
    (zsL V t2 1 x2 t4).bind fun V =>
    (zgR V (some a0) [6] 4).bind fun t5 =>
    (zgR V (some a0) [6] 26).bind fun t6 =>
    (zaI V t6 0 ((((8 : Int32) * x1) + x2))).bind fun t7 =>
    (zsI V t5 0 x2 t7).bind fun V =>
    (zgR V (some a0) [6] 5).bind fun t8 =>
    (zgR V (some a0) [6] 24).bind fun t9 =>
    (zaI V t9 2 ((((8 : Int32) * x1) + x2))).bind fun t10 =>
    (zsZ V t8 2 x2 t10).bind fun V =>
    (zgR V (some a0) [6] 6).bind fun t11 =>
    (zsI V t11 0 x2 (-1 : Int32)).bind fun V =>
    (fR_restore_73 f9) V n a0 x1 (x2 + 1))
set_option maxHeartbeats 4000000 in
set_option maxRecDepth 100000 in
theorem bR_restore_73 {x : zX} {w : zR} (C : zC x prog_9_method_31_code "BarrierMarksModel" "restore" 4 2 47 (some .int)) (M : zM x (zc w) (zs w)) : ∀ (f9 : Nat) (V : zV) (n : Nat) (a0 : Nat) (x1 : Int32) (x2 : Int32), fR_restore_73 f9 V n a0 x1 x2 = some w → zZ x 4 0 0 w V n 73 [(0, va_rf (some a0)), (1, .int x1), (2, .int x2)] [] := by
  intro f9
  induction f9 with
  | zero =>
    intro V n a0 x1 x2 h
    cases h
  | succ f9 ih =>
    intro V n a0 x1 x2 h
    unfold fR_restore_73 at h
    refine z_iload_n C 2 dR_restore_73 rfl rfl ?_
    refine z_aload_n C 0 dR_restore_74 rfl rfl ?_
    refine z_getI C fl_R_96 dR_restore_75 h (fun t1 h => ?_)
    refine z_icmp_ge C 145 dR_restore_78 (by decide) h (fun h => ?_) (fun h => ?_)
    · refine z_aload_n C 0 dR_restore_145 rfl rfl ?_
      refine z_iconst (v := 0) C dR_restore_146 (by decide) ?_
      refine z_putI C pf_R_138 (fun h => absurd h (by decide)) dR_restore_147 h (fun V h => ?_)
      refine z_iconst (v := 0) C dR_restore_150 (by decide) ?_
      refine z_istore_n (lv' := [(2, .int (0 : Int32)), (0, va_rf (some a0)), (1, .int x1)]) (i := 2) C dR_restore_151 rfl (by decide) rfl ?_
      refine z_iconst (v := 0) C dR_restore_152 (by decide) ?_
      refine z_istore_n (lv' := [(3, .int (0 : Int32)), (2, .int (0 : Int32)), (0, va_rf (some a0)), (1, .int x1)]) (i := 3) C dR_restore_153 rfl (by decide) rfl ?_
      refine z_sub [2, 3, 1, 0] rfl ?_
      exact bR_restore_154 C M zF V n a0 x1 (0 : Int32) (0 : Int32) h
    · refine z_aload_n C 0 dR_restore_81 rfl rfl ?_
      refine z_getR C fl_R_7 dR_restore_82 h (fun t2 h => ?_)
      refine z_iload_n C 2 dR_restore_85 rfl rfl ?_
      refine z_aload_n C 0 dR_restore_86 rfl rfl ?_
      refine z_getR C fl_R_72 dR_restore_87 h (fun t3 h => ?_)
      refine z_bipush (v := 8) C dR_restore_90 (by decide) ?_
      refine z_iload_n C 1 dR_restore_92 rfl rfl ?_
      refine z_imul C dR_restore_93 ?_
      refine z_iload_n C 2 dR_restore_94 rfl rfl ?_
      refine z_iadd C dR_restore_95 ?_
      refine z_lald C rfl dR_restore_96 h (fun t4 h => ?_)
      refine z_last C rfl dR_restore_97 h (fun V h => ?_)
      refine z_aload_n C 0 dR_restore_98 rfl rfl ?_
      refine z_getR C fl_R_13 dR_restore_99 h (fun t5 h => ?_)
      refine z_iload_n C 2 dR_restore_102 rfl rfl ?_
      refine z_aload_n C 0 dR_restore_103 rfl rfl ?_
      refine z_getR C fl_R_75 dR_restore_104 h (fun t6 h => ?_)
      refine z_bipush (v := 8) C dR_restore_107 (by decide) ?_
      refine z_iload_n C 1 dR_restore_109 rfl rfl ?_
      refine z_imul C dR_restore_110 ?_
      refine z_iload_n C 2 dR_restore_111 rfl rfl ?_
      refine z_iadd C dR_restore_112 ?_
      refine z_iald C rfl dR_restore_113 h (fun t7 h => ?_)
      refine z_iast C rfl dR_restore_114 h (fun V h => ?_)
      refine z_aload_n C 0 dR_restore_115 rfl rfl ?_
      refine z_getR C fl_R_17 dR_restore_116 h (fun t8 h => ?_)
      refine z_iload_n C 2 dR_restore_119 rfl rfl ?_
      refine z_aload_n C 0 dR_restore_120 rfl rfl ?_
      refine z_getR C fl_R_69 dR_restore_121 h (fun t9 h => ?_)
      refine z_bipush (v := 8) C dR_restore_124 (by decide) ?_
      refine z_iload_n C 1 dR_restore_126 rfl rfl ?_
      refine z_imul C dR_restore_127 ?_
      refine z_iload_n C 2 dR_restore_128 rfl rfl ?_
      refine z_iadd C dR_restore_129 ?_
      refine z_zald C rfl dR_restore_130 h (fun t10 h => ?_)
      refine z_zast C rfl dR_restore_131 h (fun V h => ?_)
      refine z_aload_n C 0 dR_restore_132 rfl rfl ?_
      refine z_getR C fl_R_21 dR_restore_133 h (fun t11 h => ?_)
      refine z_iload_n C 2 dR_restore_136 rfl rfl ?_
      refine z_iconst (v := (-1)) C dR_restore_137 (by decide) ?_
      refine z_iast C rfl dR_restore_138 h (fun V h => ?_)
      refine z_iinc (lv' := [(2, .int (x2 + 1)), (0, va_rf (some a0)), (1, .int x1)]) C 2 dR_restore_139 rfl rfl (by decide) rfl ?_
      refine z_goto C 73 dR_restore_142 (by decide) ?_
      refine z_sub [1, 2, 0] rfl ?_
      exact ih V n a0 x1 (x2 + 1) h
def fR_restore_42 : Nat → zV → Nat → Nat → Int32 → Int32 → Option zR
  | 0 => fun _ _ _ _ _ => none
  | f9 + 1 => fun V n a0 x1 x2 =>
    (zgI V (some a0) [6] 19).bind fun t1 =>
    if t1 ≤ x2 then (
    fR_restore_73 zF V n a0 x1 (0 : Int32)) else (
    (zgR V (some a0) [6] 20).bind fun t2 =>
    (zaI V t2 0 x2).bind fun t3 =>
    if t3 = 0 then (
    (z_obj V (some a0) [6]).bind fun o => zcV (fR_close V n o.1 x2 (2 : Int32)) fun V n =>
    fR_restore_65 (fR_restore_42 f9) V n a0 x1 x2) else (
    fR_restore_65 (fR_restore_42 f9) V n a0 x1 x2))
set_option maxHeartbeats 4000000 in
set_option maxRecDepth 100000 in
theorem bR_restore_42 {x : zX} {w : zR} (C : zC x prog_9_method_31_code "BarrierMarksModel" "restore" 4 2 47 (some .int)) (M : zM x (zc w) (zs w)) : ∀ (f9 : Nat) (V : zV) (n : Nat) (a0 : Nat) (x1 : Int32) (x2 : Int32), fR_restore_42 f9 V n a0 x1 x2 = some w → zZ x 4 0 0 w V n 42 [(0, va_rf (some a0)), (1, .int x1), (2, .int x2)] [] := by
  intro f9
  induction f9 with
  | zero =>
    intro V n a0 x1 x2 h
    cases h
  | succ f9 ih =>
    intro V n a0 x1 x2 h
    unfold fR_restore_42 at h
    refine z_iload_n C 2 dR_restore_42 rfl rfl ?_
    refine z_aload_n C 0 dR_restore_43 rfl rfl ?_
    refine z_getI C fl_R_106 dR_restore_44 h (fun t1 h => ?_)
    refine z_icmp_ge C 71 dR_restore_47 (by decide) h (fun h => ?_) (fun h => ?_)
    · refine z_iconst (v := 0) C dR_restore_71 (by decide) ?_
      refine z_istore_n (lv' := [(2, .int (0 : Int32)), (0, va_rf (some a0)), (1, .int x1)]) (i := 2) C dR_restore_72 rfl (by decide) rfl ?_
      refine z_sub [1, 2, 0] rfl ?_
      exact bR_restore_73 C M zF V n a0 x1 (0 : Int32) h
    · refine z_aload_n C 0 dR_restore_50 rfl rfl ?_
      refine z_getR C fl_R_57 dR_restore_51 h (fun t2 h => ?_)
      refine z_iload_n C 2 dR_restore_54 rfl rfl ?_
      refine z_iald C rfl dR_restore_55 h (fun t3 h => ?_)
      refine z_if_ne C 65 dR_restore_56 (by decide) h (fun h => ?_) (fun h => ?_)
      · exact bR_restore_65 C M ih V n a0 x1 x2 h
      · refine z_aload_n C 0 dR_restore_59 rfl rfl ?_
        refine z_iload_n C 2 dR_restore_60 rfl rfl ?_
        refine z_iconst (v := 2) C dR_restore_61 (by decide) ?_
        refine z_vPV (ci := 6) C M zRmP [.int x2, .int (2 : Int32)] cv_R_159 rfl (by decide) (by decide) rfl rfl (Nat.zero_le _) dR_restore_62 (fun b => fR_close V n b x2 (2 : Int32)) h (fun b w1 e1 l D dA hl => mR_close hl e1) (fun V n h => ?_)
        exact bR_restore_65 C M ih V n a0 x1 x2 h
def fR_restore_28 (V : zV) (n : Nat) (a0 : Nat) (x1 : Int32) (s0 : Option Nat) (s1 : Int32) : Option zR :=
    (zpI V s0 [6] 1 s1).bind fun V =>
    (zgI V (some a0) [6] 1).bind fun t1 =>
    if t1 ≤ 0 then (
    fR_restore_42 zF V n a0 x1 (0 : Int32)) else (
    zrI (0 : Int32) V n)
set_option maxHeartbeats 4000000 in
set_option maxRecDepth 100000 in
theorem bR_restore_28 {x : zX} {w : zR} (C : zC x prog_9_method_31_code "BarrierMarksModel" "restore" 4 2 47 (some .int)) (M : zM x (zc w) (zs w)) : ∀ (V : zV) (n : Nat) (a0 : Nat) (x1 : Int32) (s0 : Option Nat) (s1 : Int32), fR_restore_28 V n a0 x1 s0 s1 = some w → zZ x 4 0 0 w V n 28 [(0, va_rf (some a0)), (1, .int x1)] [.int s1, va_rf s0] := by
  intro V n a0 x1 s0 s1 h
  unfold fR_restore_28 at h
  refine z_putI C pf_R_100 (fun h => absurd h (by decide)) dR_restore_28 h (fun V h => ?_)
  refine z_aload_n C 0 dR_restore_31 rfl rfl ?_
  refine z_getI C fl_R_100 dR_restore_32 h (fun t1 h => ?_)
  refine z_if_le C 40 dR_restore_35 (by decide) h (fun h => ?_) (fun h => ?_)
  · refine z_iconst (v := 0) C dR_restore_40 (by decide) ?_
    refine z_istore_n (lv' := [(2, .int (0 : Int32)), (0, va_rf (some a0)), (1, .int x1)]) (i := 2) C dR_restore_41 rfl (by decide) rfl ?_
    refine z_sub [1, 2, 0] rfl ?_
    exact bR_restore_42 C M zF V n a0 x1 (0 : Int32) h
  · refine z_iconst (v := 0) C dR_restore_38 (by decide) ?_
    exact z_iret C M (Nat.zero_le _) (Nat.zero_le _) dR_restore_39 h
def fR_restore (V : zV) (n : Nat) (a0 : Nat) (x1 : Int32) : Option zR :=
    (z_obj V (some a0) [6]).bind fun o => zcI (fR_isMark V n o.1 x1) fun t1 V n =>
    if t1 = 0 then (
    fR_restore_28 V n a0 x1 (some a0) (1 : Int32)) else (
    (zgR V (some a0) [6] 20).bind fun t2 =>
    (zaI V t2 0 x1).bind fun t3 =>
    if t3 = (1 : Int32) then (
    fR_restore_28 V n a0 x1 (some a0) (0 : Int32)) else (
    fR_restore_28 V n a0 x1 (some a0) (2 : Int32)))
set_option maxHeartbeats 4000000 in
set_option maxRecDepth 100000 in
theorem bR_restore {x : zX} {w : zR} (C : zC x prog_9_method_31_code "BarrierMarksModel" "restore" 4 2 47 (some .int)) (M : zM x (zc w) (zs w)) : ∀ (V : zV) (n : Nat) (a0 : Nat) (x1 : Int32), fR_restore V n a0 x1 = some w → zZ x 4 0 0 w V n 0 [(0, va_rf (some a0)), (1, .int x1)] [] := by
  intro V n a0 x1 h
  unfold fR_restore at h
  refine z_aload_n C 0 dR_restore_0 rfl rfl ?_
  refine z_aload_n C 0 dR_restore_1 rfl rfl ?_
  refine z_iload_n C 1 dR_restore_2 rfl rfl ?_
  refine z_vPI (ci := 6) C M zRmP [.int x1] cv_R_182 rfl (by decide) (by decide) rfl rfl (by first | decide | (simp [zrfcat, zicat, zlcat]; done)) dR_restore_3 (fun b => fR_isMark V n b x1) h (fun b w1 e1 l D dA hl => mR_isMark hl e1) (fun t1 V n h => ?_)
  refine z_if_ne C 13 dR_restore_6 (by decide) h (fun h => ?_) (fun h => ?_)
  · refine z_aload_n C 0 dR_restore_13 rfl rfl ?_
    refine z_getR C fl_R_57 dR_restore_14 h (fun t2 h => ?_)
    refine z_iload_n C 1 dR_restore_17 rfl rfl ?_
    refine z_iald C rfl dR_restore_18 h (fun t3 h => ?_)
    refine z_iconst (v := 1) C dR_restore_19 (by decide) ?_
    refine z_icmp_eq C 27 dR_restore_20 (by decide) h (fun h => ?_) (fun h => ?_)
    · refine z_iconst (v := 0) C dR_restore_27 (by decide) ?_
      exact bR_restore_28 C M V n a0 x1 (some a0) (0 : Int32) h
    · refine z_iconst (v := 2) C dR_restore_23 (by decide) ?_
      refine z_goto C 28 dR_restore_24 (by decide) ?_
      exact bR_restore_28 C M V n a0 x1 (some a0) (2 : Int32) h
  · refine z_iconst (v := 1) C dR_restore_9 (by decide) ?_
    refine z_goto C 28 dR_restore_10 (by decide) ?_
    exact bR_restore_28 C M V n a0 x1 (some a0) (1 : Int32) h
theorem mR_restore {l : Launch} {D : va_G} {dA : Nat → ClassId} {V : zV} {n : Nat} (hl : l.stackTraces = false) {a0 : Nat} {x1 : Int32} {w : zR} (h : fR_restore V n a0 x1 = some w) : z_Met l ⟨"BarrierMarksModel", "restore", "(I)I"⟩ prog_9_method_31_code 4 (some .int) 2 47 (zc w) (zs w) [.ref a0, .int x1] D dA V n w := by exact z_ofZ hl (by decide) (Nat.le_of_ble_eq_true rfl) (fun x C M => bR_restore C M V n a0 x1 h)
/-! BarrierMarksModel.state(I)J -/
def fR_state_14 (V : zV) (n : Nat) (a0 : Nat) (x1 : Int32) (s0 : Option Nat) (s1 : Int32) : Option zR :=
    (zpI V s0 [6] 1 s1).bind fun V =>
    (zgI V (some a0) [6] 1).bind fun t1 =>
    if t1 ≤ 0 then (
    (zgR V (some a0) [6] 3).bind fun t2 =>
    (zaL V t2 1 x1).bind fun t3 =>
    zrL t3 V n) else (
    zrL (0 : Int64) V n)
set_option maxHeartbeats 4000000 in
set_option maxRecDepth 100000 in
theorem bR_state_14 {x : zX} {w : zR} (C : zC x prog_9_method_32_code "BarrierMarksModel" "state" 2 1 21 (some .long)) (M : zM x (zc w) (zs w)) : ∀ (V : zV) (n : Nat) (a0 : Nat) (x1 : Int32) (s0 : Option Nat) (s1 : Int32), fR_state_14 V n a0 x1 s0 s1 = some w → zZ x 2 0 0 w V n 14 [(0, va_rf (some a0)), (1, .int x1)] [.int s1, va_rf s0] := by
  intro V n a0 x1 s0 s1 h
  unfold fR_state_14 at h
  refine z_putI C pf_R_100 (fun h => absurd h (by decide)) dR_state_14 h (fun V h => ?_)
  refine z_aload_n C 0 dR_state_17 rfl rfl ?_
  refine z_getI C fl_R_100 dR_state_18 h (fun t1 h => ?_)
  refine z_if_le C 28 dR_state_21 (by decide) h (fun h => ?_) (fun h => ?_)
  · refine z_aload_n C 0 dR_state_28 rfl rfl ?_
    refine z_getR C fl_R_7 dR_state_29 h (fun t2 h => ?_)
    refine z_iload_n C 1 dR_state_32 rfl rfl ?_
    refine z_lald C rfl dR_state_33 h (fun t3 h => ?_)
    exact z_lret C M (Nat.zero_le _) (Nat.zero_le _) dR_state_34 h
  · refine z_lconst (v := 0) C dR_state_24 (by decide) ?_
    refine z_goto C 34 dR_state_25 (by decide) ?_
    exact z_lret C M (Nat.zero_le _) (Nat.zero_le _) dR_state_34 h
def fR_state (V : zV) (n : Nat) (a0 : Nat) (x1 : Int32) : Option zR :=
    (z_obj V (some a0) [6]).bind fun o => zcI (fR_isTask V n o.1 x1) fun t1 V n =>
    if t1 = 0 then (
    fR_state_14 V n a0 x1 (some a0) (1 : Int32)) else (
    fR_state_14 V n a0 x1 (some a0) (0 : Int32))
set_option maxHeartbeats 4000000 in
set_option maxRecDepth 100000 in
theorem bR_state {x : zX} {w : zR} (C : zC x prog_9_method_32_code "BarrierMarksModel" "state" 2 1 21 (some .long)) (M : zM x (zc w) (zs w)) : ∀ (V : zV) (n : Nat) (a0 : Nat) (x1 : Int32), fR_state V n a0 x1 = some w → zZ x 2 0 0 w V n 0 [(0, va_rf (some a0)), (1, .int x1)] [] := by
  intro V n a0 x1 h
  unfold fR_state at h
  refine z_aload_n C 0 dR_state_0 rfl rfl ?_
  refine z_aload_n C 0 dR_state_1 rfl rfl ?_
  refine z_iload_n C 1 dR_state_2 rfl rfl ?_
  refine z_vPI (ci := 6) C M zRmP [.int x1] cv_R_109 rfl (by decide) (by decide) rfl rfl (by first | decide | (simp [zrfcat, zicat, zlcat]; done)) dR_state_3 (fun b => fR_isTask V n b x1) h (fun b w1 e1 l D dA hl => mR_isTask hl e1) (fun t1 V n h => ?_)
  refine z_if_eq C 13 dR_state_6 (by decide) h (fun h => ?_) (fun h => ?_)
  · refine z_iconst (v := 1) C dR_state_13 (by decide) ?_
    exact bR_state_14 C M V n a0 x1 (some a0) (1 : Int32) h
  · refine z_iconst (v := 0) C dR_state_9 (by decide) ?_
    refine z_goto C 14 dR_state_10 (by decide) ?_
    exact bR_state_14 C M V n a0 x1 (some a0) (0 : Int32) h
theorem mR_state {l : Launch} {D : va_G} {dA : Nat → ClassId} {V : zV} {n : Nat} (hl : l.stackTraces = false) {a0 : Nat} {x1 : Int32} {w : zR} (h : fR_state V n a0 x1 = some w) : z_Met l ⟨"BarrierMarksModel", "state", "(I)J"⟩ prog_9_method_32_code 2 (some .long) 1 21 (zc w) (zs w) [.ref a0, .int x1] D dA V n w := by exact z_ofZ hl (by decide) (Nat.le_of_ble_eq_true rfl) (fun x C M => bR_state C M V n a0 x1 h)
/-! BarrierMarksModel.task(II)I -/
def fR_task_27 (V : zV) (n : Nat) (a0 : Nat) (x1 : Int32) (x2 : Int32) (s0 : Option Nat) (s1 : Int32) : Option zR :=
    (zpI V s0 [6] 1 s1).bind fun V =>
    (zgI V (some a0) [6] 1).bind fun t1 =>
    if t1 ≤ 0 then (
    if x2 = 0 then (
    (zgR V (some a0) [6] 4).bind fun t4 =>
    (zaI V t4 0 x1).bind fun t5 =>
    zrI t5 V n) else (
    (zgR V (some a0) [6] 5).bind fun t2 =>
    (zaI V t2 2 x1).bind fun t3 =>
    if t3 = 0 then (
    zrI (0 : Int32) V n) else (
    zrI (1 : Int32) V n))) else (
    zrI (0 : Int32) V n)
set_option maxHeartbeats 4000000 in
set_option maxRecDepth 100000 in
theorem bR_task_27 {x : zX} {w : zR} (C : zC x prog_9_method_33_code "BarrierMarksModel" "task" 3 1 21 (some .int)) (M : zM x (zc w) (zs w)) : ∀ (V : zV) (n : Nat) (a0 : Nat) (x1 : Int32) (x2 : Int32) (s0 : Option Nat) (s1 : Int32), fR_task_27 V n a0 x1 x2 s0 s1 = some w → zZ x 3 0 0 w V n 27 [(0, va_rf (some a0)), (1, .int x1), (2, .int x2)] [.int s1, va_rf s0] := by
  intro V n a0 x1 x2 s0 s1 h
  unfold fR_task_27 at h
  refine z_putI C pf_R_100 (fun h => absurd h (by decide)) dR_task_27 h (fun V h => ?_)
  refine z_aload_n C 0 dR_task_30 rfl rfl ?_
  refine z_getI C fl_R_100 dR_task_31 h (fun t1 h => ?_)
  refine z_if_le C 41 dR_task_34 (by decide) h (fun h => ?_) (fun h => ?_)
  · refine z_iload_n C 2 dR_task_41 rfl rfl ?_
    refine z_if_ne C 54 dR_task_42 (by decide) h (fun h => ?_) (fun h => ?_)
    · refine z_aload_n C 0 dR_task_54 rfl rfl ?_
      refine z_getR C fl_R_17 dR_task_55 h (fun t2 h => ?_)
      refine z_iload_n C 1 dR_task_58 rfl rfl ?_
      refine z_zald C rfl dR_task_59 h (fun t3 h => ?_)
      refine z_if_eq C 67 dR_task_60 (by decide) h (fun h => ?_) (fun h => ?_)
      · refine z_iconst (v := 0) C dR_task_67 (by decide) ?_
        exact z_iret C M (Nat.zero_le _) (Nat.zero_le _) dR_task_68 h
      · refine z_iconst (v := 1) C dR_task_63 (by decide) ?_
        refine z_goto C 68 dR_task_64 (by decide) ?_
        exact z_iret C M (Nat.zero_le _) (Nat.zero_le _) dR_task_68 h
    · refine z_aload_n C 0 dR_task_45 rfl rfl ?_
      refine z_getR C fl_R_13 dR_task_46 h (fun t4 h => ?_)
      refine z_iload_n C 1 dR_task_49 rfl rfl ?_
      refine z_iald C rfl dR_task_50 h (fun t5 h => ?_)
      refine z_goto C 68 dR_task_51 (by decide) ?_
      exact z_iret C M (Nat.zero_le _) (Nat.zero_le _) dR_task_68 h
  · refine z_iconst (v := 0) C dR_task_37 (by decide) ?_
    refine z_goto C 68 dR_task_38 (by decide) ?_
    exact z_iret C M (Nat.zero_le _) (Nat.zero_le _) dR_task_68 h
def fR_task_22 (V : zV) (n : Nat) (a0 : Nat) (x1 : Int32) (x2 : Int32) (s0 : Option Nat) : Option zR :=
    fR_task_27 V n a0 x1 x2 s0 (2 : Int32)
set_option maxHeartbeats 4000000 in
set_option maxRecDepth 100000 in
theorem bR_task_22 {x : zX} {w : zR} (C : zC x prog_9_method_33_code "BarrierMarksModel" "task" 3 1 21 (some .int)) (M : zM x (zc w) (zs w)) : ∀ (V : zV) (n : Nat) (a0 : Nat) (x1 : Int32) (x2 : Int32) (s0 : Option Nat), fR_task_22 V n a0 x1 x2 s0 = some w → zZ x 3 0 0 w V n 22 [(0, va_rf (some a0)), (1, .int x1), (2, .int x2)] [va_rf s0] := by
  intro V n a0 x1 x2 s0 h
  unfold fR_task_22 at h
  refine z_iconst (v := 2) C dR_task_22 (by decide) ?_
  refine z_goto C 27 dR_task_23 (by decide) ?_
  exact bR_task_27 C M V n a0 x1 x2 s0 (2 : Int32) h
def fR_task (V : zV) (n : Nat) (a0 : Nat) (x1 : Int32) (x2 : Int32) : Option zR :=
    (z_obj V (some a0) [6]).bind fun o => zcI (fR_isTask V n o.1 x1) fun t1 V n =>
    if t1 = 0 then (
    fR_task_27 V n a0 x1 x2 (some a0) (1 : Int32)) else (
    if x2 < 0 then (
    fR_task_22 V n a0 x1 x2 (some a0)) else (
    if x2 ≤ (1 : Int32) then (
    fR_task_27 V n a0 x1 x2 (some a0) (0 : Int32)) else (
    fR_task_22 V n a0 x1 x2 (some a0))))
set_option maxHeartbeats 4000000 in
set_option maxRecDepth 100000 in
theorem bR_task {x : zX} {w : zR} (C : zC x prog_9_method_33_code "BarrierMarksModel" "task" 3 1 21 (some .int)) (M : zM x (zc w) (zs w)) : ∀ (V : zV) (n : Nat) (a0 : Nat) (x1 : Int32) (x2 : Int32), fR_task V n a0 x1 x2 = some w → zZ x 3 0 0 w V n 0 [(0, va_rf (some a0)), (1, .int x1), (2, .int x2)] [] := by
  intro V n a0 x1 x2 h
  unfold fR_task at h
  refine z_aload_n C 0 dR_task_0 rfl rfl ?_
  refine z_aload_n C 0 dR_task_1 rfl rfl ?_
  refine z_iload_n C 1 dR_task_2 rfl rfl ?_
  refine z_vPI (ci := 6) C M zRmP [.int x1] cv_R_109 rfl (by decide) (by decide) rfl rfl (by first | decide | (simp [zrfcat, zicat, zlcat]; done)) dR_task_3 (fun b => fR_isTask V n b x1) h (fun b w1 e1 l D dA hl => mR_isTask hl e1) (fun t1 V n h => ?_)
  refine z_if_ne C 13 dR_task_6 (by decide) h (fun h => ?_) (fun h => ?_)
  · refine z_iload_n C 2 dR_task_13 rfl rfl ?_
    refine z_if_lt C 22 dR_task_14 (by decide) h (fun h => ?_) (fun h => ?_)
    · exact bR_task_22 C M V n a0 x1 x2 (some a0) h
    · refine z_iload_n C 2 dR_task_17 rfl rfl ?_
      refine z_iconst (v := 1) C dR_task_18 (by decide) ?_
      refine z_icmp_le C 26 dR_task_19 (by decide) h (fun h => ?_) (fun h => ?_)
      · refine z_iconst (v := 0) C dR_task_26 (by decide) ?_
        exact bR_task_27 C M V n a0 x1 x2 (some a0) (0 : Int32) h
      · exact bR_task_22 C M V n a0 x1 x2 (some a0) h
  · refine z_iconst (v := 1) C dR_task_9 (by decide) ?_
    refine z_goto C 27 dR_task_10 (by decide) ?_
    exact bR_task_27 C M V n a0 x1 x2 (some a0) (1 : Int32) h
theorem mR_task {l : Launch} {D : va_G} {dA : Nat → ClassId} {V : zV} {n : Nat} (hl : l.stackTraces = false) {a0 : Nat} {x1 : Int32} {x2 : Int32} {w : zR} (h : fR_task V n a0 x1 x2 = some w) : z_Met l ⟨"BarrierMarksModel", "task", "(II)I"⟩ prog_9_method_33_code 3 (some .int) 1 21 (zc w) (zs w) [.ref a0, .int x1, .int x2] D dA V n w := by exact z_ofZ hl (by decide) (Nat.le_of_ble_eq_true rfl) (fun x C M => bR_task C M V n a0 x1 x2 h)
/-! BarrierMarksModel.kept(II)J -/
def fR_kept_40 (V : zV) (n : Nat) (a0 : Nat) (x1 : Int32) (x2 : Int32) (s0 : Option Nat) (s1 : Int32) : Option zR :=
    (zpI V s0 [6] 1 s1).bind fun V =>
    (zgI V (some a0) [6] 1).bind fun t1 =>
    if t1 ≤ 0 then (
    (zgR V (some a0) [6] 25).bind fun t2 =>
    (zaL V t2 1 ((((8 : Int32) * x1) + x2))).bind fun t3 =>
    zrL t3 V n) else (
    zrL (0 : Int64) V n)
set_option maxHeartbeats 4000000 in
set_option maxRecDepth 100000 in
theorem bR_kept_40 {x : zX} {w : zR} (C : zC x prog_9_method_34_code "BarrierMarksModel" "kept" 3 1 21 (some .long)) (M : zM x (zc w) (zs w)) : ∀ (V : zV) (n : Nat) (a0 : Nat) (x1 : Int32) (x2 : Int32) (s0 : Option Nat) (s1 : Int32), fR_kept_40 V n a0 x1 x2 s0 s1 = some w → zZ x 3 0 0 w V n 40 [(0, va_rf (some a0)), (1, .int x1), (2, .int x2)] [.int s1, va_rf s0] := by
  intro V n a0 x1 x2 s0 s1 h
  unfold fR_kept_40 at h
  refine z_putI C pf_R_100 (fun h => absurd h (by decide)) dR_kept_40 h (fun V h => ?_)
  refine z_aload_n C 0 dR_kept_43 rfl rfl ?_
  refine z_getI C fl_R_100 dR_kept_44 h (fun t1 h => ?_)
  refine z_if_le C 54 dR_kept_47 (by decide) h (fun h => ?_) (fun h => ?_)
  · refine z_aload_n C 0 dR_kept_54 rfl rfl ?_
    refine z_getR C fl_R_72 dR_kept_55 h (fun t2 h => ?_)
    refine z_bipush (v := 8) C dR_kept_58 (by decide) ?_
    refine z_iload_n C 1 dR_kept_60 rfl rfl ?_
    refine z_imul C dR_kept_61 ?_
    refine z_iload_n C 2 dR_kept_62 rfl rfl ?_
    refine z_iadd C dR_kept_63 ?_
    refine z_lald C rfl dR_kept_64 h (fun t3 h => ?_)
    exact z_lret C M (Nat.zero_le _) (Nat.zero_le _) dR_kept_65 h
  · refine z_lconst (v := 0) C dR_kept_50 (by decide) ?_
    refine z_goto C 65 dR_kept_51 (by decide) ?_
    exact z_lret C M (Nat.zero_le _) (Nat.zero_le _) dR_kept_65 h
def fR_kept_17 (V : zV) (n : Nat) (a0 : Nat) (x1 : Int32) (x2 : Int32) (s0 : Option Nat) : Option zR :=
    fR_kept_40 V n a0 x1 x2 s0 (1 : Int32)
set_option maxHeartbeats 4000000 in
set_option maxRecDepth 100000 in
theorem bR_kept_17 {x : zX} {w : zR} (C : zC x prog_9_method_34_code "BarrierMarksModel" "kept" 3 1 21 (some .long)) (M : zM x (zc w) (zs w)) : ∀ (V : zV) (n : Nat) (a0 : Nat) (x1 : Int32) (x2 : Int32) (s0 : Option Nat), fR_kept_17 V n a0 x1 x2 s0 = some w → zZ x 3 0 0 w V n 17 [(0, va_rf (some a0)), (1, .int x1), (2, .int x2)] [va_rf s0] := by
  intro V n a0 x1 x2 s0 h
  unfold fR_kept_17 at h
  refine z_iconst (v := 1) C dR_kept_17 (by decide) ?_
  refine z_goto C 40 dR_kept_18 (by decide) ?_
  exact bR_kept_40 C M V n a0 x1 x2 s0 (1 : Int32) h
def fR_kept (V : zV) (n : Nat) (a0 : Nat) (x1 : Int32) (x2 : Int32) : Option zR :=
    (z_obj V (some a0) [6]).bind fun o => zcI (fR_isMark V n o.1 x1) fun t1 V n =>
    if t1 = 0 then (
    fR_kept_17 V n a0 x1 x2 (some a0)) else (
    (z_obj V (some a0) [6]).bind fun o => zcI (fR_isTask V n o.1 x2) fun t2 V n =>
    if t2 = 0 then (
    fR_kept_17 V n a0 x1 x2 (some a0)) else (
    (zgR V (some a0) [6] 23).bind fun t3 =>
    (zaI V t3 2 ((((8 : Int32) * x1) + x2))).bind fun t4 =>
    if t4 = 0 then (
    fR_kept_40 V n a0 x1 x2 (some a0) (2 : Int32)) else (
    fR_kept_40 V n a0 x1 x2 (some a0) (0 : Int32))))
set_option maxHeartbeats 4000000 in
set_option maxRecDepth 100000 in
theorem bR_kept {x : zX} {w : zR} (C : zC x prog_9_method_34_code "BarrierMarksModel" "kept" 3 1 21 (some .long)) (M : zM x (zc w) (zs w)) : ∀ (V : zV) (n : Nat) (a0 : Nat) (x1 : Int32) (x2 : Int32), fR_kept V n a0 x1 x2 = some w → zZ x 3 0 0 w V n 0 [(0, va_rf (some a0)), (1, .int x1), (2, .int x2)] [] := by
  intro V n a0 x1 x2 h
  unfold fR_kept at h
  refine z_aload_n C 0 dR_kept_0 rfl rfl ?_
  refine z_aload_n C 0 dR_kept_1 rfl rfl ?_
  refine z_iload_n C 1 dR_kept_2 rfl rfl ?_
  refine z_vPI (ci := 6) C M zRmP [.int x1] cv_R_182 rfl (by decide) (by decide) rfl rfl (by first | decide | (simp [zrfcat, zicat, zlcat]; done)) dR_kept_3 (fun b => fR_isMark V n b x1) h (fun b w1 e1 l D dA hl => mR_isMark hl e1) (fun t1 V n h => ?_)
  refine z_if_eq C 17 dR_kept_6 (by decide) h (fun h => ?_) (fun h => ?_)
  · exact bR_kept_17 C M V n a0 x1 x2 (some a0) h
  · refine z_aload_n C 0 dR_kept_9 rfl rfl ?_
    refine z_iload_n C 2 dR_kept_10 rfl rfl ?_
    refine z_vPI (ci := 6) C M zRmP [.int x2] cv_R_109 rfl (by decide) (by decide) rfl rfl (by first | decide | (simp [zrfcat, zicat, zlcat]; done)) dR_kept_11 (fun b => fR_isTask V n b x2) h (fun b w1 e1 l D dA hl => mR_isTask hl e1) (fun t2 V n h => ?_)
    refine z_if_ne C 21 dR_kept_14 (by decide) h (fun h => ?_) (fun h => ?_)
    · refine z_aload_n C 0 dR_kept_21 rfl rfl ?_
      refine z_getR C fl_R_66 dR_kept_22 h (fun t3 h => ?_)
      refine z_bipush (v := 8) C dR_kept_25 (by decide) ?_
      refine z_iload_n C 1 dR_kept_27 rfl rfl ?_
      refine z_imul C dR_kept_28 ?_
      refine z_iload_n C 2 dR_kept_29 rfl rfl ?_
      refine z_iadd C dR_kept_30 ?_
      refine z_zald C rfl dR_kept_31 h (fun t4 h => ?_)
      refine z_if_ne C 39 dR_kept_32 (by decide) h (fun h => ?_) (fun h => ?_)
      · refine z_iconst (v := 0) C dR_kept_39 (by decide) ?_
        exact bR_kept_40 C M V n a0 x1 x2 (some a0) (0 : Int32) h
      · refine z_iconst (v := 2) C dR_kept_35 (by decide) ?_
        refine z_goto C 40 dR_kept_36 (by decide) ?_
        exact bR_kept_40 C M V n a0 x1 x2 (some a0) (2 : Int32) h
    · exact bR_kept_17 C M V n a0 x1 x2 (some a0) h
theorem mR_kept {l : Launch} {D : va_G} {dA : Nat → ClassId} {V : zV} {n : Nat} (hl : l.stackTraces = false) {a0 : Nat} {x1 : Int32} {x2 : Int32} {w : zR} (h : fR_kept V n a0 x1 x2 = some w) : z_Met l ⟨"BarrierMarksModel", "kept", "(II)J"⟩ prog_9_method_34_code 3 (some .long) 1 21 (zc w) (zs w) [.ref a0, .int x1, .int x2] D dA V n w := by exact z_ofZ hl (by decide) (Nat.le_of_ble_eq_true rfl) (fun x C M => bR_kept C M V n a0 x1 x2 h)
/-! BarrierMarksModel.keptRows(II)I -/
def fR_keptRows_40 (V : zV) (n : Nat) (a0 : Nat) (x1 : Int32) (x2 : Int32) (s0 : Option Nat) (s1 : Int32) : Option zR :=
    (zpI V s0 [6] 1 s1).bind fun V =>
    (zgI V (some a0) [6] 1).bind fun t1 =>
    if t1 ≤ 0 then (
    (zgR V (some a0) [6] 26).bind fun t2 =>
    (zaI V t2 0 ((((8 : Int32) * x1) + x2))).bind fun t3 =>
    zrI t3 V n) else (
    zrI (0 : Int32) V n)
set_option maxHeartbeats 4000000 in
set_option maxRecDepth 100000 in
theorem bR_keptRows_40 {x : zX} {w : zR} (C : zC x prog_9_method_35_code "BarrierMarksModel" "keptRows" 3 1 21 (some .int)) (M : zM x (zc w) (zs w)) : ∀ (V : zV) (n : Nat) (a0 : Nat) (x1 : Int32) (x2 : Int32) (s0 : Option Nat) (s1 : Int32), fR_keptRows_40 V n a0 x1 x2 s0 s1 = some w → zZ x 3 0 0 w V n 40 [(0, va_rf (some a0)), (1, .int x1), (2, .int x2)] [.int s1, va_rf s0] := by
  intro V n a0 x1 x2 s0 s1 h
  unfold fR_keptRows_40 at h
  refine z_putI C pf_R_100 (fun h => absurd h (by decide)) dR_keptRows_40 h (fun V h => ?_)
  refine z_aload_n C 0 dR_keptRows_43 rfl rfl ?_
  refine z_getI C fl_R_100 dR_keptRows_44 h (fun t1 h => ?_)
  refine z_if_le C 54 dR_keptRows_47 (by decide) h (fun h => ?_) (fun h => ?_)
  · refine z_aload_n C 0 dR_keptRows_54 rfl rfl ?_
    refine z_getR C fl_R_75 dR_keptRows_55 h (fun t2 h => ?_)
    refine z_bipush (v := 8) C dR_keptRows_58 (by decide) ?_
    refine z_iload_n C 1 dR_keptRows_60 rfl rfl ?_
    refine z_imul C dR_keptRows_61 ?_
    refine z_iload_n C 2 dR_keptRows_62 rfl rfl ?_
    refine z_iadd C dR_keptRows_63 ?_
    refine z_iald C rfl dR_keptRows_64 h (fun t3 h => ?_)
    exact z_iret C M (Nat.zero_le _) (Nat.zero_le _) dR_keptRows_65 h
  · refine z_iconst (v := 0) C dR_keptRows_50 (by decide) ?_
    refine z_goto C 65 dR_keptRows_51 (by decide) ?_
    exact z_iret C M (Nat.zero_le _) (Nat.zero_le _) dR_keptRows_65 h
def fR_keptRows_17 (V : zV) (n : Nat) (a0 : Nat) (x1 : Int32) (x2 : Int32) (s0 : Option Nat) : Option zR :=
    fR_keptRows_40 V n a0 x1 x2 s0 (1 : Int32)
set_option maxHeartbeats 4000000 in
set_option maxRecDepth 100000 in
theorem bR_keptRows_17 {x : zX} {w : zR} (C : zC x prog_9_method_35_code "BarrierMarksModel" "keptRows" 3 1 21 (some .int)) (M : zM x (zc w) (zs w)) : ∀ (V : zV) (n : Nat) (a0 : Nat) (x1 : Int32) (x2 : Int32) (s0 : Option Nat), fR_keptRows_17 V n a0 x1 x2 s0 = some w → zZ x 3 0 0 w V n 17 [(0, va_rf (some a0)), (1, .int x1), (2, .int x2)] [va_rf s0] := by
  intro V n a0 x1 x2 s0 h
  unfold fR_keptRows_17 at h
  refine z_iconst (v := 1) C dR_keptRows_17 (by decide) ?_
  refine z_goto C 40 dR_keptRows_18 (by decide) ?_
  exact bR_keptRows_40 C M V n a0 x1 x2 s0 (1 : Int32) h
def fR_keptRows (V : zV) (n : Nat) (a0 : Nat) (x1 : Int32) (x2 : Int32) : Option zR :=
    (z_obj V (some a0) [6]).bind fun o => zcI (fR_isMark V n o.1 x1) fun t1 V n =>
    if t1 = 0 then (
    fR_keptRows_17 V n a0 x1 x2 (some a0)) else (
    (z_obj V (some a0) [6]).bind fun o => zcI (fR_isTask V n o.1 x2) fun t2 V n =>
    if t2 = 0 then (
    fR_keptRows_17 V n a0 x1 x2 (some a0)) else (
    (zgR V (some a0) [6] 23).bind fun t3 =>
    (zaI V t3 2 ((((8 : Int32) * x1) + x2))).bind fun t4 =>
    if t4 = 0 then (
    fR_keptRows_40 V n a0 x1 x2 (some a0) (2 : Int32)) else (
    fR_keptRows_40 V n a0 x1 x2 (some a0) (0 : Int32))))
set_option maxHeartbeats 4000000 in
set_option maxRecDepth 100000 in
theorem bR_keptRows {x : zX} {w : zR} (C : zC x prog_9_method_35_code "BarrierMarksModel" "keptRows" 3 1 21 (some .int)) (M : zM x (zc w) (zs w)) : ∀ (V : zV) (n : Nat) (a0 : Nat) (x1 : Int32) (x2 : Int32), fR_keptRows V n a0 x1 x2 = some w → zZ x 3 0 0 w V n 0 [(0, va_rf (some a0)), (1, .int x1), (2, .int x2)] [] := by
  intro V n a0 x1 x2 h
  unfold fR_keptRows at h
  refine z_aload_n C 0 dR_keptRows_0 rfl rfl ?_
  refine z_aload_n C 0 dR_keptRows_1 rfl rfl ?_
  refine z_iload_n C 1 dR_keptRows_2 rfl rfl ?_
  refine z_vPI (ci := 6) C M zRmP [.int x1] cv_R_182 rfl (by decide) (by decide) rfl rfl (by first | decide | (simp [zrfcat, zicat, zlcat]; done)) dR_keptRows_3 (fun b => fR_isMark V n b x1) h (fun b w1 e1 l D dA hl => mR_isMark hl e1) (fun t1 V n h => ?_)
  refine z_if_eq C 17 dR_keptRows_6 (by decide) h (fun h => ?_) (fun h => ?_)
  · exact bR_keptRows_17 C M V n a0 x1 x2 (some a0) h
  · refine z_aload_n C 0 dR_keptRows_9 rfl rfl ?_
    refine z_iload_n C 2 dR_keptRows_10 rfl rfl ?_
    refine z_vPI (ci := 6) C M zRmP [.int x2] cv_R_109 rfl (by decide) (by decide) rfl rfl (by first | decide | (simp [zrfcat, zicat, zlcat]; done)) dR_keptRows_11 (fun b => fR_isTask V n b x2) h (fun b w1 e1 l D dA hl => mR_isTask hl e1) (fun t2 V n h => ?_)
    refine z_if_ne C 21 dR_keptRows_14 (by decide) h (fun h => ?_) (fun h => ?_)
    · refine z_aload_n C 0 dR_keptRows_21 rfl rfl ?_
      refine z_getR C fl_R_66 dR_keptRows_22 h (fun t3 h => ?_)
      refine z_bipush (v := 8) C dR_keptRows_25 (by decide) ?_
      refine z_iload_n C 1 dR_keptRows_27 rfl rfl ?_
      refine z_imul C dR_keptRows_28 ?_
      refine z_iload_n C 2 dR_keptRows_29 rfl rfl ?_
      refine z_iadd C dR_keptRows_30 ?_
      refine z_zald C rfl dR_keptRows_31 h (fun t4 h => ?_)
      refine z_if_ne C 39 dR_keptRows_32 (by decide) h (fun h => ?_) (fun h => ?_)
      · refine z_iconst (v := 0) C dR_keptRows_39 (by decide) ?_
        exact bR_keptRows_40 C M V n a0 x1 x2 (some a0) (0 : Int32) h
      · refine z_iconst (v := 2) C dR_keptRows_35 (by decide) ?_
        refine z_goto C 40 dR_keptRows_36 (by decide) ?_
        exact bR_keptRows_40 C M V n a0 x1 x2 (some a0) (2 : Int32) h
    · exact bR_keptRows_17 C M V n a0 x1 x2 (some a0) h
theorem mR_keptRows {l : Launch} {D : va_G} {dA : Nat → ClassId} {V : zV} {n : Nat} (hl : l.stackTraces = false) {a0 : Nat} {x1 : Int32} {x2 : Int32} {w : zR} (h : fR_keptRows V n a0 x1 x2 = some w) : z_Met l ⟨"BarrierMarksModel", "keptRows", "(II)I"⟩ prog_9_method_35_code 3 (some .int) 1 21 (zc w) (zs w) [.ref a0, .int x1, .int x2] D dA V n w := by exact z_ofZ hl (by decide) (Nat.le_of_ble_eq_true rfl) (fun x C M => bR_keptRows C M V n a0 x1 x2 h)
/-! BarrierMarksModel.position(II)I -/
def fR_position_30 (V : zV) (n : Nat) (a0 : Nat) (x1 : Int32) (x2 : Int32) (s0 : Option Nat) (s1 : Int32) : Option zR :=
    (zpI V s0 [6] 1 s1).bind fun V =>
    (zgI V (some a0) [6] 1).bind fun t1 =>
    if t1 ≤ 0 then (
    (zgR V (some a0) [6] 21).bind fun t2 =>
    (zaI V t2 0 ((((16 : Int32) * x1) + x2))).bind fun t3 =>
    zrI t3 V n) else (
    zrI (0 : Int32) V n)
set_option maxHeartbeats 4000000 in
set_option maxRecDepth 100000 in
theorem bR_position_30 {x : zX} {w : zR} (C : zC x prog_9_method_36_code "BarrierMarksModel" "position" 3 1 21 (some .int)) (M : zM x (zc w) (zs w)) : ∀ (V : zV) (n : Nat) (a0 : Nat) (x1 : Int32) (x2 : Int32) (s0 : Option Nat) (s1 : Int32), fR_position_30 V n a0 x1 x2 s0 s1 = some w → zZ x 3 0 0 w V n 30 [(0, va_rf (some a0)), (1, .int x1), (2, .int x2)] [.int s1, va_rf s0] := by
  intro V n a0 x1 x2 s0 s1 h
  unfold fR_position_30 at h
  refine z_putI C pf_R_100 (fun h => absurd h (by decide)) dR_position_30 h (fun V h => ?_)
  refine z_aload_n C 0 dR_position_33 rfl rfl ?_
  refine z_getI C fl_R_100 dR_position_34 h (fun t1 h => ?_)
  refine z_if_le C 44 dR_position_37 (by decide) h (fun h => ?_) (fun h => ?_)
  · refine z_aload_n C 0 dR_position_44 rfl rfl ?_
    refine z_getR C fl_R_60 dR_position_45 h (fun t2 h => ?_)
    refine z_bipush (v := 16) C dR_position_48 (by decide) ?_
    refine z_iload_n C 1 dR_position_50 rfl rfl ?_
    refine z_imul C dR_position_51 ?_
    refine z_iload_n C 2 dR_position_52 rfl rfl ?_
    refine z_iadd C dR_position_53 ?_
    refine z_iald C rfl dR_position_54 h (fun t3 h => ?_)
    exact z_iret C M (Nat.zero_le _) (Nat.zero_le _) dR_position_55 h
  · refine z_iconst (v := 0) C dR_position_40 (by decide) ?_
    refine z_goto C 55 dR_position_41 (by decide) ?_
    exact z_iret C M (Nat.zero_le _) (Nat.zero_le _) dR_position_55 h
def fR_position_25 (V : zV) (n : Nat) (a0 : Nat) (x1 : Int32) (x2 : Int32) (s0 : Option Nat) : Option zR :=
    fR_position_30 V n a0 x1 x2 s0 (1 : Int32)
set_option maxHeartbeats 4000000 in
set_option maxRecDepth 100000 in
theorem bR_position_25 {x : zX} {w : zR} (C : zC x prog_9_method_36_code "BarrierMarksModel" "position" 3 1 21 (some .int)) (M : zM x (zc w) (zs w)) : ∀ (V : zV) (n : Nat) (a0 : Nat) (x1 : Int32) (x2 : Int32) (s0 : Option Nat), fR_position_25 V n a0 x1 x2 s0 = some w → zZ x 3 0 0 w V n 25 [(0, va_rf (some a0)), (1, .int x1), (2, .int x2)] [va_rf s0] := by
  intro V n a0 x1 x2 s0 h
  unfold fR_position_25 at h
  refine z_iconst (v := 1) C dR_position_25 (by decide) ?_
  refine z_goto C 30 dR_position_26 (by decide) ?_
  exact bR_position_30 C M V n a0 x1 x2 s0 (1 : Int32) h
def fR_position (V : zV) (n : Nat) (a0 : Nat) (x1 : Int32) (x2 : Int32) : Option zR :=
    (z_obj V (some a0) [6]).bind fun o => zcI (fR_isMark V n o.1 x1) fun t1 V n =>
    if t1 = 0 then (
    fR_position_25 V n a0 x1 x2 (some a0)) else (
    (z_obj V (some a0) [6]).bind fun o => zcI (fR_isChannel V n o.1 x2) fun t2 V n =>
    if t2 = 0 then (
    fR_position_25 V n a0 x1 x2 (some a0)) else (
    (z_obj V (some a0) [6]).bind fun o => zcI (fR_isSource V n o.1 x2) fun t3 V n =>
    if t3 = 0 then (
    fR_position_25 V n a0 x1 x2 (some a0)) else (
    fR_position_30 V n a0 x1 x2 (some a0) (0 : Int32))))
set_option maxHeartbeats 4000000 in
set_option maxRecDepth 100000 in
theorem bR_position {x : zX} {w : zR} (C : zC x prog_9_method_36_code "BarrierMarksModel" "position" 3 1 21 (some .int)) (M : zM x (zc w) (zs w)) : ∀ (V : zV) (n : Nat) (a0 : Nat) (x1 : Int32) (x2 : Int32), fR_position V n a0 x1 x2 = some w → zZ x 3 0 0 w V n 0 [(0, va_rf (some a0)), (1, .int x1), (2, .int x2)] [] := by
  intro V n a0 x1 x2 h
  unfold fR_position at h
  refine z_aload_n C 0 dR_position_0 rfl rfl ?_
  refine z_aload_n C 0 dR_position_1 rfl rfl ?_
  refine z_iload_n C 1 dR_position_2 rfl rfl ?_
  refine z_vPI (ci := 6) C M zRmP [.int x1] cv_R_182 rfl (by decide) (by decide) rfl rfl (by first | decide | (simp [zrfcat, zicat, zlcat]; done)) dR_position_3 (fun b => fR_isMark V n b x1) h (fun b w1 e1 l D dA hl => mR_isMark hl e1) (fun t1 V n h => ?_)
  refine z_if_eq C 25 dR_position_6 (by decide) h (fun h => ?_) (fun h => ?_)
  · exact bR_position_25 C M V n a0 x1 x2 (some a0) h
  · refine z_aload_n C 0 dR_position_9 rfl rfl ?_
    refine z_iload_n C 2 dR_position_10 rfl rfl ?_
    refine z_vPI (ci := 6) C M zRmP [.int x2] cv_R_124 rfl (by decide) (by decide) rfl rfl (by first | decide | (simp [zrfcat, zicat, zlcat]; done)) dR_position_11 (fun b => fR_isChannel V n b x2) h (fun b w1 e1 l D dA hl => mR_isChannel hl e1) (fun t2 V n h => ?_)
    refine z_if_eq C 25 dR_position_14 (by decide) h (fun h => ?_) (fun h => ?_)
    · exact bR_position_25 C M V n a0 x1 x2 (some a0) h
    · refine z_aload_n C 0 dR_position_17 rfl rfl ?_
      refine z_iload_n C 2 dR_position_18 rfl rfl ?_
      refine z_vPI (ci := 6) C M zRmP [.int x2] cv_R_127 rfl (by decide) (by decide) rfl rfl (by first | decide | (simp [zrfcat, zicat, zlcat]; done)) dR_position_19 (fun b => fR_isSource V n b x2) h (fun b w1 e1 l D dA hl => mR_isSource hl e1) (fun t3 V n h => ?_)
      refine z_if_ne C 29 dR_position_22 (by decide) h (fun h => ?_) (fun h => ?_)
      · refine z_iconst (v := 0) C dR_position_29 (by decide) ?_
        exact bR_position_30 C M V n a0 x1 x2 (some a0) (0 : Int32) h
      · exact bR_position_25 C M V n a0 x1 x2 (some a0) h
theorem mR_position {l : Launch} {D : va_G} {dA : Nat → ClassId} {V : zV} {n : Nat} (hl : l.stackTraces = false) {a0 : Nat} {x1 : Int32} {x2 : Int32} {w : zR} (h : fR_position V n a0 x1 x2 = some w) : z_Met l ⟨"BarrierMarksModel", "position", "(II)I"⟩ prog_9_method_36_code 3 (some .int) 1 21 (zc w) (zs w) [.ref a0, .int x1, .int x2] D dA V n w := by exact z_ofZ hl (by decide) (Nat.le_of_ble_eq_true rfl) (fun x C M => bR_position C M V n a0 x1 x2 h)
/-! BarrierMarksModel.condition(I)I -/
def fR_condition_14 (V : zV) (n : Nat) (a0 : Nat) (x1 : Int32) (s0 : Option Nat) (s1 : Int32) : Option zR :=
    (zpI V s0 [6] 1 s1).bind fun V =>
    (zgI V (some a0) [6] 1).bind fun t1 =>
    if t1 ≤ 0 then (
    (zgR V (some a0) [6] 20).bind fun t2 =>
    (zaI V t2 0 x1).bind fun t3 =>
    zrI t3 V n) else (
    zrI (0 : Int32) V n)
set_option maxHeartbeats 4000000 in
set_option maxRecDepth 100000 in
theorem bR_condition_14 {x : zX} {w : zR} (C : zC x prog_9_method_37_code "BarrierMarksModel" "condition" 2 1 21 (some .int)) (M : zM x (zc w) (zs w)) : ∀ (V : zV) (n : Nat) (a0 : Nat) (x1 : Int32) (s0 : Option Nat) (s1 : Int32), fR_condition_14 V n a0 x1 s0 s1 = some w → zZ x 2 0 0 w V n 14 [(0, va_rf (some a0)), (1, .int x1)] [.int s1, va_rf s0] := by
  intro V n a0 x1 s0 s1 h
  unfold fR_condition_14 at h
  refine z_putI C pf_R_100 (fun h => absurd h (by decide)) dR_condition_14 h (fun V h => ?_)
  refine z_aload_n C 0 dR_condition_17 rfl rfl ?_
  refine z_getI C fl_R_100 dR_condition_18 h (fun t1 h => ?_)
  refine z_if_le C 28 dR_condition_21 (by decide) h (fun h => ?_) (fun h => ?_)
  · refine z_aload_n C 0 dR_condition_28 rfl rfl ?_
    refine z_getR C fl_R_57 dR_condition_29 h (fun t2 h => ?_)
    refine z_iload_n C 1 dR_condition_32 rfl rfl ?_
    refine z_iald C rfl dR_condition_33 h (fun t3 h => ?_)
    exact z_iret C M (Nat.zero_le _) (Nat.zero_le _) dR_condition_34 h
  · refine z_iconst (v := 0) C dR_condition_24 (by decide) ?_
    refine z_goto C 34 dR_condition_25 (by decide) ?_
    exact z_iret C M (Nat.zero_le _) (Nat.zero_le _) dR_condition_34 h
def fR_condition (V : zV) (n : Nat) (a0 : Nat) (x1 : Int32) : Option zR :=
    (z_obj V (some a0) [6]).bind fun o => zcI (fR_isMark V n o.1 x1) fun t1 V n =>
    if t1 = 0 then (
    fR_condition_14 V n a0 x1 (some a0) (1 : Int32)) else (
    fR_condition_14 V n a0 x1 (some a0) (0 : Int32))
set_option maxHeartbeats 4000000 in
set_option maxRecDepth 100000 in
theorem bR_condition {x : zX} {w : zR} (C : zC x prog_9_method_37_code "BarrierMarksModel" "condition" 2 1 21 (some .int)) (M : zM x (zc w) (zs w)) : ∀ (V : zV) (n : Nat) (a0 : Nat) (x1 : Int32), fR_condition V n a0 x1 = some w → zZ x 2 0 0 w V n 0 [(0, va_rf (some a0)), (1, .int x1)] [] := by
  intro V n a0 x1 h
  unfold fR_condition at h
  refine z_aload_n C 0 dR_condition_0 rfl rfl ?_
  refine z_aload_n C 0 dR_condition_1 rfl rfl ?_
  refine z_iload_n C 1 dR_condition_2 rfl rfl ?_
  refine z_vPI (ci := 6) C M zRmP [.int x1] cv_R_182 rfl (by decide) (by decide) rfl rfl (by first | decide | (simp [zrfcat, zicat, zlcat]; done)) dR_condition_3 (fun b => fR_isMark V n b x1) h (fun b w1 e1 l D dA hl => mR_isMark hl e1) (fun t1 V n h => ?_)
  refine z_if_eq C 13 dR_condition_6 (by decide) h (fun h => ?_) (fun h => ?_)
  · refine z_iconst (v := 1) C dR_condition_13 (by decide) ?_
    exact bR_condition_14 C M V n a0 x1 (some a0) (1 : Int32) h
  · refine z_iconst (v := 0) C dR_condition_9 (by decide) ?_
    refine z_goto C 14 dR_condition_10 (by decide) ?_
    exact bR_condition_14 C M V n a0 x1 (some a0) (0 : Int32) h
theorem mR_condition {l : Launch} {D : va_G} {dA : Nat → ClassId} {V : zV} {n : Nat} (hl : l.stackTraces = false) {a0 : Nat} {x1 : Int32} {w : zR} (h : fR_condition V n a0 x1 = some w) : z_Met l ⟨"BarrierMarksModel", "condition", "(I)I"⟩ prog_9_method_37_code 2 (some .int) 1 21 (zc w) (zs w) [.ref a0, .int x1] D dA V n w := by exact z_ofZ hl (by decide) (Nat.le_of_ble_eq_true rfl) (fun x C M => bR_condition C M V n a0 x1 h)
/-! BarrierMarksModel.acknowledged(I)I -/
def fR_acknowledged_14 (V : zV) (n : Nat) (a0 : Nat) (x1 : Int32) (s0 : Option Nat) (s1 : Int32) : Option zR :=
    (zpI V s0 [6] 1 s1).bind fun V =>
    (zgI V (some a0) [6] 1).bind fun t1 =>
    if t1 ≤ 0 then (
    (z_obj V (some a0) [6]).bind fun o => zcI (fR_count V n o.1 x1) fun t2 V n =>
    zrI t2 V n) else (
    zrI (0 : Int32) V n)
set_option maxHeartbeats 4000000 in
set_option maxRecDepth 100000 in
theorem bR_acknowledged_14 {x : zX} {w : zR} (C : zC x prog_9_method_38_code "BarrierMarksModel" "acknowledged" 2 1 23 (some .int)) (M : zM x (zc w) (zs w)) : ∀ (V : zV) (n : Nat) (a0 : Nat) (x1 : Int32) (s0 : Option Nat) (s1 : Int32), fR_acknowledged_14 V n a0 x1 s0 s1 = some w → zZ x 2 0 0 w V n 14 [(0, va_rf (some a0)), (1, .int x1)] [.int s1, va_rf s0] := by
  intro V n a0 x1 s0 s1 h
  unfold fR_acknowledged_14 at h
  refine z_putI C pf_R_100 (fun h => absurd h (by decide)) dR_acknowledged_14 h (fun V h => ?_)
  refine z_aload_n C 0 dR_acknowledged_17 rfl rfl ?_
  refine z_getI C fl_R_100 dR_acknowledged_18 h (fun t1 h => ?_)
  refine z_if_le C 28 dR_acknowledged_21 (by decide) h (fun h => ?_) (fun h => ?_)
  · refine z_aload_n C 0 dR_acknowledged_28 rfl rfl ?_
    refine z_iload_n C 1 dR_acknowledged_29 rfl rfl ?_
    refine z_vPI (ci := 6) C M zRmP [.int x1] cv_R_156 rfl (by decide) (by decide) rfl rfl (Nat.zero_le _) dR_acknowledged_30 (fun b => fR_count V n b x1) h (fun b w1 e1 l D dA hl => mR_count hl e1) (fun t2 V n h => ?_)
    exact z_iret C M (Nat.zero_le _) (Nat.zero_le _) dR_acknowledged_33 h
  · refine z_iconst (v := 0) C dR_acknowledged_24 (by decide) ?_
    refine z_goto C 33 dR_acknowledged_25 (by decide) ?_
    exact z_iret C M (Nat.zero_le _) (Nat.zero_le _) dR_acknowledged_33 h
def fR_acknowledged (V : zV) (n : Nat) (a0 : Nat) (x1 : Int32) : Option zR :=
    (z_obj V (some a0) [6]).bind fun o => zcI (fR_isMark V n o.1 x1) fun t1 V n =>
    if t1 = 0 then (
    fR_acknowledged_14 V n a0 x1 (some a0) (1 : Int32)) else (
    fR_acknowledged_14 V n a0 x1 (some a0) (0 : Int32))
set_option maxHeartbeats 4000000 in
set_option maxRecDepth 100000 in
theorem bR_acknowledged {x : zX} {w : zR} (C : zC x prog_9_method_38_code "BarrierMarksModel" "acknowledged" 2 1 23 (some .int)) (M : zM x (zc w) (zs w)) : ∀ (V : zV) (n : Nat) (a0 : Nat) (x1 : Int32), fR_acknowledged V n a0 x1 = some w → zZ x 2 0 0 w V n 0 [(0, va_rf (some a0)), (1, .int x1)] [] := by
  intro V n a0 x1 h
  unfold fR_acknowledged at h
  refine z_aload_n C 0 dR_acknowledged_0 rfl rfl ?_
  refine z_aload_n C 0 dR_acknowledged_1 rfl rfl ?_
  refine z_iload_n C 1 dR_acknowledged_2 rfl rfl ?_
  refine z_vPI (ci := 6) C M zRmP [.int x1] cv_R_182 rfl (by decide) (by decide) rfl rfl (by first | decide | (simp [zrfcat, zicat, zlcat]; done)) dR_acknowledged_3 (fun b => fR_isMark V n b x1) h (fun b w1 e1 l D dA hl => mR_isMark hl e1) (fun t1 V n h => ?_)
  refine z_if_eq C 13 dR_acknowledged_6 (by decide) h (fun h => ?_) (fun h => ?_)
  · refine z_iconst (v := 1) C dR_acknowledged_13 (by decide) ?_
    exact bR_acknowledged_14 C M V n a0 x1 (some a0) (1 : Int32) h
  · refine z_iconst (v := 0) C dR_acknowledged_9 (by decide) ?_
    refine z_goto C 14 dR_acknowledged_10 (by decide) ?_
    exact bR_acknowledged_14 C M V n a0 x1 (some a0) (0 : Int32) h
theorem mR_acknowledged {l : Launch} {D : va_G} {dA : Nat → ClassId} {V : zV} {n : Nat} (hl : l.stackTraces = false) {a0 : Nat} {x1 : Int32} {w : zR} (h : fR_acknowledged V n a0 x1 = some w) : z_Met l ⟨"BarrierMarksModel", "acknowledged", "(I)I"⟩ prog_9_method_38_code 2 (some .int) 1 23 (zc w) (zs w) [.ref a0, .int x1] D dA V n w := by exact z_ofZ hl (by decide) (Nat.le_of_ble_eq_true rfl) (fun x C M => bR_acknowledged C M V n a0 x1 h)
/-! BarrierMarksModel.carried(II)V -/
def fR_carried_162 (K8 : zV → Nat → Nat → Int32 → Int32 → Int64 → Int64 → Int32 → Option zR) (V : zV) (n : Nat) (a0 : Nat) (x1 : Int32) (x2 : Int32) (x3 : Int64) (x5 : Int64) (x7 : Int32) : Option zR :=
    K8 V n a0 x1 x2 x3 x5 (x7 + 1)
set_option maxHeartbeats 4000000 in
set_option maxRecDepth 100000 in
theorem bR_carried_162 {x : zX} {w : zR} {K8 : zV → Nat → Nat → Int32 → Int32 → Int64 → Int64 → Int32 → Option zR} (C : zC x prog_9_method_40_code "BarrierMarksModel" "carried" 9 1 21 none) (M : zM x (zc w) (zs w)) (hK8 : ∀ (V : zV) (n : Nat) (a0 : Nat) (x1 : Int32) (x2 : Int32) (x3 : Int64) (x5 : Int64) (x7 : Int32), K8 V n a0 x1 x2 x3 x5 x7 = some w → zZ x 9 0 0 w V n 8 [(0, va_rf (some a0)), (1, .int x1), (2, .int x2), (3, .long x3), (5, .long x5), (7, .int x7)] []) : ∀ (V : zV) (n : Nat) (a0 : Nat) (x1 : Int32) (x2 : Int32) (x3 : Int64) (x5 : Int64) (x7 : Int32), fR_carried_162 K8 V n a0 x1 x2 x3 x5 x7 = some w → zZ x 9 0 0 w V n 162 [(0, va_rf (some a0)), (1, .int x1), (2, .int x2), (3, .long x3), (5, .long x5), (7, .int x7)] [] := by
  intro V n a0 x1 x2 x3 x5 x7 h
  unfold fR_carried_162 at h
  refine z_iinc (lv' := [(7, .int (x7 + 1)), (0, va_rf (some a0)), (1, .int x1), (2, .int x2), (3, .long x3), (5, .long x5)]) C 5 dR_carried_162 rfl rfl (by decide) rfl ?_
  refine z_goto C 8 dR_carried_165 (by decide) ?_
  refine z_sub [1, 2, 3, 4, 5, 0] rfl ?_
  exact hK8 V n a0 x1 x2 x3 x5 (x7 + 1) h
def fR_carried_43 (K8 : zV → Nat → Nat → Int32 → Int32 → Int64 → Int64 → Int32 → Option zR) : Nat → zV → Nat → Nat → Int32 → Int32 → Int64 → Int64 → Int32 → Int32 → Option zR
  | 0 => fun _ _ _ _ _ _ _ _ _ => none
  | f9 + 1 => fun V n a0 x1 x2 x3 x5 x7 x8 =>
    (zgR V (some a0) [6] 21).bind fun t1 =>
    (zaI V t1 0 ((((16 : Int32) * x1) + x7))).bind fun t2 =>
    if t2 ≤ x8 then (
    (zgR V (some a0) [6] 21).bind fun t3 =>
    (zaI V t3 0 ((((16 : Int32) * x1) + x7))).bind fun t4 =>
    fR_carried_162 K8 V n a0 x1 x2 x3 (x5 + t4.toInt64) x7) else (
    (zgR V (some a0) [6] 13).bind fun t5 =>
    (zaL V t5 1 ((((200 : Int32) * x7) + x8))).bind fun t6 =>
    (fR_carried_43 K8 f9) V n a0 x1 x2 (x3 + t6) x5 x7 (x8 + 1))
set_option maxHeartbeats 4000000 in
set_option maxRecDepth 100000 in
theorem bR_carried_43 {x : zX} {w : zR} {K8 : zV → Nat → Nat → Int32 → Int32 → Int64 → Int64 → Int32 → Option zR} (C : zC x prog_9_method_40_code "BarrierMarksModel" "carried" 9 1 21 none) (M : zM x (zc w) (zs w)) (hK8 : ∀ (V : zV) (n : Nat) (a0 : Nat) (x1 : Int32) (x2 : Int32) (x3 : Int64) (x5 : Int64) (x7 : Int32), K8 V n a0 x1 x2 x3 x5 x7 = some w → zZ x 9 0 0 w V n 8 [(0, va_rf (some a0)), (1, .int x1), (2, .int x2), (3, .long x3), (5, .long x5), (7, .int x7)] []) : ∀ (f9 : Nat) (V : zV) (n : Nat) (a0 : Nat) (x1 : Int32) (x2 : Int32) (x3 : Int64) (x5 : Int64) (x7 : Int32) (x8 : Int32), fR_carried_43 K8 f9 V n a0 x1 x2 x3 x5 x7 x8 = some w → zZ x 9 0 0 w V n 43 [(0, va_rf (some a0)), (1, .int x1), (2, .int x2), (3, .long x3), (5, .long x5), (7, .int x7), (8, .int x8)] [] := by
  intro f9
  induction f9 with
  | zero =>
    intro V n a0 x1 x2 x3 x5 x7 x8 h
    cases h
  | succ f9 ih =>
    intro V n a0 x1 x2 x3 x5 x7 x8 h
    unfold fR_carried_43 at h
    refine z_iload C 6 dR_carried_43 rfl ?_
    refine z_aload_n C 0 dR_carried_45 rfl rfl ?_
    refine z_getR C fl_R_60 dR_carried_46 h (fun t1 h => ?_)
    refine z_bipush (v := 16) C dR_carried_49 (by decide) ?_
    refine z_iload_n C 1 dR_carried_51 rfl rfl ?_
    refine z_imul C dR_carried_52 ?_
    refine z_iload C 5 dR_carried_53 rfl ?_
    refine z_iadd C dR_carried_55 ?_
    refine z_iald C rfl dR_carried_56 h (fun t2 h => ?_)
    refine z_icmp_ge C 83 dR_carried_57 (by decide) h (fun h => ?_) (fun h => ?_)
    · refine z_lload C 4 dR_carried_83 rfl ?_
      refine z_aload_n C 0 dR_carried_85 rfl rfl ?_
      refine z_getR C fl_R_60 dR_carried_86 h (fun t3 h => ?_)
      refine z_bipush (v := 16) C dR_carried_89 (by decide) ?_
      refine z_iload_n C 1 dR_carried_91 rfl rfl ?_
      refine z_imul C dR_carried_92 ?_
      refine z_iload C 5 dR_carried_93 rfl ?_
      refine z_iadd C dR_carried_95 ?_
      refine z_iald C rfl dR_carried_96 h (fun t4 h => ?_)
      refine z_i2l C dR_carried_97 ?_
      refine z_ladd C dR_carried_98 ?_
      refine z_lstore (lv' := [(5, .long (x5 + t4.toInt64)), (0, va_rf (some a0)), (1, .int x1), (2, .int x2), (3, .long x3), (7, .int x7), (8, .int x8)]) C dR_carried_99 (by decide) rfl ?_
      refine z_goto C 162 dR_carried_101 (by decide) ?_
      refine z_sub [1, 2, 3, 4, 0, 5] rfl ?_
      exact bR_carried_162 C M hK8 V n a0 x1 x2 x3 (x5 + t4.toInt64) x7 h
    · refine z_lload_n C 3 dR_carried_60 rfl rfl ?_
      refine z_aload_n C 0 dR_carried_61 rfl rfl ?_
      refine z_getR C fl_R_39 dR_carried_62 h (fun t5 h => ?_)
      refine z_sipush (v := 200) C dR_carried_65 (by decide) ?_
      refine z_iload C 5 dR_carried_68 rfl ?_
      refine z_imul C dR_carried_70 ?_
      refine z_iload C 6 dR_carried_71 rfl ?_
      refine z_iadd C dR_carried_73 ?_
      refine z_lald C rfl dR_carried_74 h (fun t6 h => ?_)
      refine z_ladd C dR_carried_75 ?_
      refine z_lstore_n (lv' := [(3, .long (x3 + t6)), (0, va_rf (some a0)), (1, .int x1), (2, .int x2), (5, .long x5), (7, .int x7), (8, .int x8)]) (i := 3) C dR_carried_76 rfl (by decide) rfl ?_
      refine z_iinc (lv' := [(8, .int (x8 + 1)), (3, .long (x3 + t6)), (0, va_rf (some a0)), (1, .int x1), (2, .int x2), (5, .long x5), (7, .int x7)]) C 6 dR_carried_77 rfl rfl (by decide) rfl ?_
      refine z_goto C 43 dR_carried_80 (by decide) ?_
      refine z_sub [2, 3, 4, 1, 5, 6, 0] rfl ?_
      exact ih V n a0 x1 x2 (x3 + t6) x5 x7 (x8 + 1) h
def fR_carried_8 : Nat → zV → Nat → Nat → Int32 → Int32 → Int64 → Int64 → Int32 → Option zR
  | 0 => fun _ _ _ _ _ _ _ _ => none
  | f9 + 1 => fun V n a0 x1 x2 x3 x5 x7 =>
    (zgI V (some a0) [6] 7).bind fun t1 =>
    if t1 ≤ x7 then (
    (zgR V (some a0) [6] 32).bind fun t2 =>
    (zsL V t2 1 x2 x3).bind fun V =>
    (zgR V (some a0) [6] 33).bind fun t3 =>
    (zsL V t3 1 x2 x5).bind fun V =>
    zrV V n) else (
    (zgR V (some a0) [6] 9).bind fun t4 =>
    (zaI V t4 0 x7).bind fun t5 =>
    if t5 = x2 then (
    (z_obj V (some a0) [6]).bind fun o => zcI (fR_isSource V n o.1 x7) fun t6 V n =>
    if t6 = 0 then (
    (zgR V (some a0) [6] 32).bind fun t7 =>
    (zgR V (some a0) [6] 8).bind fun t8 =>
    (zaI V t8 0 x7).bind fun t9 =>
    (zaL V t7 1 t9).bind fun t10 =>
    (zgR V (some a0) [6] 8).bind fun t11 =>
    (zaI V t11 0 x7).bind fun t12 =>
    (zgR V (some a0) [6] 33).bind fun t13 =>
    (zgR V (some a0) [6] 8).bind fun t14 =>
    (zaI V t14 0 x7).bind fun t15 =>
    (zaL V t13 1 t15).bind fun t16 =>
    (zgR V (some a0) [6] 33).bind fun t17 =>
    (zgR V (some a0) [6] 8).bind fun t18 =>
    (zaI V t18 0 x7).bind fun t19 =>
    (zaL V t17 1 t19).bind fun t20 =>
    fR_carried_162 (fR_carried_8 f9) V n a0 x1 x2 ((x3 + (((3 : Int64) * t10) + (t12.toInt64 * t16)))) (x5 + t20) x7) else (
    fR_carried_43 (fR_carried_8 f9) zF V n a0 x1 x2 x3 x5 x7 (0 : Int32))) else (
    fR_carried_162 (fR_carried_8 f9) V n a0 x1 x2 x3 x5 x7))
set_option maxHeartbeats 4000000 in
set_option maxRecDepth 100000 in
theorem bR_carried_8 {x : zX} {w : zR} (C : zC x prog_9_method_40_code "BarrierMarksModel" "carried" 9 1 21 none) (M : zM x (zc w) (zs w)) : ∀ (f9 : Nat) (V : zV) (n : Nat) (a0 : Nat) (x1 : Int32) (x2 : Int32) (x3 : Int64) (x5 : Int64) (x7 : Int32), fR_carried_8 f9 V n a0 x1 x2 x3 x5 x7 = some w → zZ x 9 0 0 w V n 8 [(0, va_rf (some a0)), (1, .int x1), (2, .int x2), (3, .long x3), (5, .long x5), (7, .int x7)] [] := by
  intro f9
  induction f9 with
  | zero =>
    intro V n a0 x1 x2 x3 x5 x7 h
    cases h
  | succ f9 ih =>
    intro V n a0 x1 x2 x3 x5 x7 h
    unfold fR_carried_8 at h
    refine z_iload C 5 dR_carried_8 rfl ?_
    refine z_aload_n C 0 dR_carried_10 rfl rfl ?_
    refine z_getI C fl_R_103 dR_carried_11 h (fun t1 h => ?_)
    refine z_icmp_ge C 168 dR_carried_14 (by decide) h (fun h => ?_) (fun h => ?_)
    · refine z_aload_n C 0 dR_carried_168 rfl rfl ?_
      refine z_getR C fl_R_90 dR_carried_169 h (fun t2 h => ?_)
      refine z_iload_n C 2 dR_carried_172 rfl rfl ?_
      refine z_lload_n C 3 dR_carried_173 rfl rfl ?_
      refine z_last C rfl dR_carried_174 h (fun V h => ?_)
      refine z_aload_n C 0 dR_carried_175 rfl rfl ?_
      refine z_getR C fl_R_93 dR_carried_176 h (fun t3 h => ?_)
      refine z_iload_n C 2 dR_carried_179 rfl rfl ?_
      refine z_lload C 4 dR_carried_180 rfl ?_
      refine z_last C rfl dR_carried_182 h (fun V h => ?_)
      exact z_vret C M (Nat.zero_le _) (Nat.zero_le _) dR_carried_183 h
    · refine z_aload_n C 0 dR_carried_17 rfl rfl ?_
      refine z_getR C fl_R_27 dR_carried_18 h (fun t4 h => ?_)
      refine z_iload C 5 dR_carried_21 rfl ?_
      refine z_iald C rfl dR_carried_23 h (fun t5 h => ?_)
      refine z_iload_n C 2 dR_carried_24 rfl rfl ?_
      refine z_icmp_eq C 31 dR_carried_25 (by decide) h (fun h => ?_) (fun h => ?_)
      · refine z_aload_n C 0 dR_carried_31 rfl rfl ?_
        refine z_iload C 5 dR_carried_32 rfl ?_
        refine z_vPI (ci := 6) C M zRmP [.int x7] cv_R_127 rfl (by decide) (by decide) rfl rfl (Nat.zero_le _) dR_carried_34 (fun b => fR_isSource V n b x7) h (fun b w1 e1 l D dA hl => mR_isSource hl e1) (fun t6 V n h => ?_)
        refine z_if_eq C 104 dR_carried_37 (by decide) h (fun h => ?_) (fun h => ?_)
        · refine z_lload_n C 3 dR_carried_104 rfl rfl ?_
          refine z_ldc2 (v := 3) C dR_carried_105 kl_R_176 ?_
          refine z_aload_n C 0 dR_carried_108 rfl rfl ?_
          refine z_getR C fl_R_90 dR_carried_109 h (fun t7 h => ?_)
          refine z_aload_n C 0 dR_carried_112 rfl rfl ?_
          refine z_getR C fl_R_24 dR_carried_113 h (fun t8 h => ?_)
          refine z_iload C 5 dR_carried_116 rfl ?_
          refine z_iald C rfl dR_carried_118 h (fun t9 h => ?_)
          refine z_lald C rfl dR_carried_119 h (fun t10 h => ?_)
          refine z_lmul C dR_carried_120 ?_
          refine z_aload_n C 0 dR_carried_121 rfl rfl ?_
          refine z_getR C fl_R_24 dR_carried_122 h (fun t11 h => ?_)
          refine z_iload C 5 dR_carried_125 rfl ?_
          refine z_iald C rfl dR_carried_127 h (fun t12 h => ?_)
          refine z_i2l C dR_carried_128 ?_
          refine z_aload_n C 0 dR_carried_129 rfl rfl ?_
          refine z_getR C fl_R_93 dR_carried_130 h (fun t13 h => ?_)
          refine z_aload_n C 0 dR_carried_133 rfl rfl ?_
          refine z_getR C fl_R_24 dR_carried_134 h (fun t14 h => ?_)
          refine z_iload C 5 dR_carried_137 rfl ?_
          refine z_iald C rfl dR_carried_139 h (fun t15 h => ?_)
          refine z_lald C rfl dR_carried_140 h (fun t16 h => ?_)
          refine z_lmul C dR_carried_141 ?_
          refine z_ladd C dR_carried_142 ?_
          refine z_ladd C dR_carried_143 ?_
          refine z_lstore_n (lv' := [(3, .long (x3 + (((3 : Int64) * t10) + (t12.toInt64 * t16)))), (0, va_rf (some a0)), (1, .int x1), (2, .int x2), (5, .long x5), (7, .int x7)]) (i := 3) C dR_carried_144 rfl (by decide) rfl ?_
          refine z_lload C 4 dR_carried_145 rfl ?_
          refine z_aload_n C 1 dR_carried_147 rfl rfl ?_
          refine z_getR C fl_R_93 dR_carried_148 h (fun t17 h => ?_)
          refine z_aload_n C 1 dR_carried_151 rfl rfl ?_
          refine z_getR C fl_R_24 dR_carried_152 h (fun t18 h => ?_)
          refine z_iload C 5 dR_carried_155 rfl ?_
          refine z_iald C rfl dR_carried_157 h (fun t19 h => ?_)
          refine z_lald C rfl dR_carried_158 h (fun t20 h => ?_)
          refine z_ladd C dR_carried_159 ?_
          refine z_lstore (lv' := [(5, .long (x5 + t20)), (3, .long (x3 + (((3 : Int64) * t10) + (t12.toInt64 * t16)))), (0, va_rf (some a0)), (1, .int x1), (2, .int x2), (7, .int x7)]) C dR_carried_160 (by decide) rfl ?_
          refine z_sub [2, 3, 4, 1, 0, 5] rfl ?_
          exact bR_carried_162 C M ih V n a0 x1 x2 ((x3 + (((3 : Int64) * t10) + (t12.toInt64 * t16)))) (x5 + t20) x7 h
        · refine z_iconst (v := 0) C dR_carried_40 (by decide) ?_
          refine z_istore (lv' := [(8, .int (0 : Int32)), (0, va_rf (some a0)), (1, .int x1), (2, .int x2), (3, .long x3), (5, .long x5), (7, .int x7)]) C dR_carried_41 (by decide) rfl ?_
          refine z_sub [1, 2, 3, 4, 5, 6, 0] rfl ?_
          exact bR_carried_43 C M ih zF V n a0 x1 x2 x3 x5 x7 (0 : Int32) h
      · refine z_goto C 162 dR_carried_28 (by decide) ?_
        exact bR_carried_162 C M ih V n a0 x1 x2 x3 x5 x7 h
def fR_carried (V : zV) (n : Nat) (a0 : Nat) (x1 : Int32) (x2 : Int32) : Option zR :=
    fR_carried_8 zF V n a0 x1 x2 (0 : Int64) (0 : Int64) (0 : Int32)
set_option maxHeartbeats 4000000 in
set_option maxRecDepth 100000 in
theorem bR_carried {x : zX} {w : zR} (C : zC x prog_9_method_40_code "BarrierMarksModel" "carried" 9 1 21 none) (M : zM x (zc w) (zs w)) : ∀ (V : zV) (n : Nat) (a0 : Nat) (x1 : Int32) (x2 : Int32), fR_carried V n a0 x1 x2 = some w → zZ x 9 0 0 w V n 0 [(0, va_rf (some a0)), (1, .int x1), (2, .int x2)] [] := by
  intro V n a0 x1 x2 h
  unfold fR_carried at h
  refine z_lconst (v := 0) C dR_carried_0 (by decide) ?_
  refine z_lstore_n (lv' := [(3, .long (0 : Int64)), (0, va_rf (some a0)), (1, .int x1), (2, .int x2)]) (i := 3) C dR_carried_1 rfl (by decide) rfl ?_
  refine z_lconst (v := 0) C dR_carried_2 (by decide) ?_
  refine z_lstore (lv' := [(5, .long (0 : Int64)), (3, .long (0 : Int64)), (0, va_rf (some a0)), (1, .int x1), (2, .int x2)]) C dR_carried_3 (by decide) rfl ?_
  refine z_iconst (v := 0) C dR_carried_5 (by decide) ?_
  refine z_istore (lv' := [(7, .int (0 : Int32)), (5, .long (0 : Int64)), (3, .long (0 : Int64)), (0, va_rf (some a0)), (1, .int x1), (2, .int x2)]) C dR_carried_6 (by decide) rfl ?_
  refine z_sub [3, 4, 5, 2, 1, 0] rfl ?_
  exact bR_carried_8 C M zF V n a0 x1 x2 (0 : Int64) (0 : Int64) (0 : Int32) h
theorem mR_carried {l : Launch} {D : va_G} {dA : Nat → ClassId} {V : zV} {n : Nat} (hl : l.stackTraces = false) {a0 : Nat} {x1 : Int32} {x2 : Int32} {w : zR} (h : fR_carried V n a0 x1 x2 = some w) : z_Met l ⟨"BarrierMarksModel", "carried", "(II)V"⟩ prog_9_method_40_code 9 none 1 21 (zc w) (zs w) [.ref a0, .int x1, .int x2] D dA V n w := by exact z_ofZ hl (by decide) (Nat.le_of_ble_eq_true rfl) (fun x C M => bR_carried C M V n a0 x1 x2 h)
/-! BarrierMarksModel.exact(I)Z -/
def fR_exact_82 (K72 : zV → Nat → Nat → Int32 → Int32 → Option zR) : Nat → zV → Nat → Nat → Int32 → Int32 → Int32 → Option zR
  | 0 => fun _ _ _ _ _ _ => none
  | f9 + 1 => fun V n a0 x1 x2 x3 =>
    (zgI V (some a0) [6] 0).bind fun t1 =>
    if t1 ≤ x3 then (
    K72 V n a0 x1 (x2 + 1)) else (
    (z_obj V (some a0) [6]).bind fun o => zcV (fR_carried V n o.1 x1 x3) fun V n =>
    (fR_exact_82 K72 f9) V n a0 x1 x2 (x3 + 1))
set_option maxHeartbeats 4000000 in
set_option maxRecDepth 100000 in
theorem bR_exact_82 {x : zX} {w : zR} {K72 : zV → Nat → Nat → Int32 → Int32 → Option zR} (C : zC x prog_9_method_39_code "BarrierMarksModel" "exact" 4 2 49 (some .boolean)) (M : zM x (zc w) (zs w)) (hK72 : ∀ (V : zV) (n : Nat) (a0 : Nat) (x1 : Int32) (x2 : Int32), K72 V n a0 x1 x2 = some w → zZ x 4 0 0 w V n 72 [(0, va_rf (some a0)), (1, .int x1), (2, .int x2)] []) : ∀ (f9 : Nat) (V : zV) (n : Nat) (a0 : Nat) (x1 : Int32) (x2 : Int32) (x3 : Int32), fR_exact_82 K72 f9 V n a0 x1 x2 x3 = some w → zZ x 4 0 0 w V n 82 [(0, va_rf (some a0)), (1, .int x1), (2, .int x2), (3, .int x3)] [] := by
  intro f9
  induction f9 with
  | zero =>
    intro V n a0 x1 x2 x3 h
    cases h
  | succ f9 ih =>
    intro V n a0 x1 x2 x3 h
    unfold fR_exact_82 at h
    refine z_iload_n C 3 dR_exact_82 rfl rfl ?_
    refine z_aload_n C 0 dR_exact_83 rfl rfl ?_
    refine z_getI C fl_R_96 dR_exact_84 h (fun t1 h => ?_)
    refine z_icmp_ge C 102 dR_exact_87 (by decide) h (fun h => ?_) (fun h => ?_)
    · refine z_iinc (lv' := [(2, .int (x2 + 1)), (0, va_rf (some a0)), (1, .int x1), (3, .int x3)]) C 2 dR_exact_102 rfl rfl (by decide) rfl ?_
      refine z_goto C 72 dR_exact_105 (by decide) ?_
      refine z_sub [1, 2, 0] rfl ?_
      exact hK72 V n a0 x1 (x2 + 1) h
    · refine z_aload_n C 0 dR_exact_90 rfl rfl ?_
      refine z_iload_n C 1 dR_exact_91 rfl rfl ?_
      refine z_iload_n C 3 dR_exact_92 rfl rfl ?_
      refine z_vPV (ci := 6) C M zRmP [.int x1, .int x3] cv_R_185 rfl (by decide) (by decide) rfl rfl (Nat.zero_le _) dR_exact_93 (fun b => fR_carried V n b x1 x3) h (fun b w1 e1 l D dA hl => mR_carried hl e1) (fun V n h => ?_)
      refine z_iinc (lv' := [(3, .int (x3 + 1)), (0, va_rf (some a0)), (1, .int x1), (2, .int x2)]) C 3 dR_exact_96 rfl rfl (by decide) rfl ?_
      refine z_goto C 82 dR_exact_99 (by decide) ?_
      refine z_sub [1, 2, 3, 0] rfl ?_
      exact ih V n a0 x1 x2 (x3 + 1) h
def fR_exact_169 (K112 : zV → Nat → Nat → Int32 → Int32 → Int32 → Option zR) (V : zV) (n : Nat) (a0 : Nat) (x1 : Int32) (x3 : Int32) (s0 : Int32) (s1 : Int32) : Option zR :=
    K112 V n a0 x1 (s0 &&& s1) (x3 + 1)
set_option maxHeartbeats 4000000 in
set_option maxRecDepth 100000 in
theorem bR_exact_169 {x : zX} {w : zR} {K112 : zV → Nat → Nat → Int32 → Int32 → Int32 → Option zR} (C : zC x prog_9_method_39_code "BarrierMarksModel" "exact" 4 2 49 (some .boolean)) (M : zM x (zc w) (zs w)) (hK112 : ∀ (V : zV) (n : Nat) (a0 : Nat) (x1 : Int32) (x2 : Int32) (x3 : Int32), K112 V n a0 x1 x2 x3 = some w → zZ x 4 0 0 w V n 112 [(0, va_rf (some a0)), (1, .int x1), (2, .int x2), (3, .int x3)] []) : ∀ (V : zV) (n : Nat) (a0 : Nat) (x1 : Int32) (x3 : Int32) (s0 : Int32) (s1 : Int32), fR_exact_169 K112 V n a0 x1 x3 s0 s1 = some w → zZ x 4 0 0 w V n 169 [(0, va_rf (some a0)), (1, .int x1), (3, .int x3)] [.int s1, .int s0] := by
  intro V n a0 x1 x3 s0 s1 h
  unfold fR_exact_169 at h
  refine z_iand C dR_exact_169 ?_
  refine z_istore_n (lv' := [(2, .int (s0 &&& s1)), (0, va_rf (some a0)), (1, .int x1), (3, .int x3)]) (i := 2) C dR_exact_170 rfl (by decide) rfl ?_
  refine z_iinc (lv' := [(3, .int (x3 + 1)), (2, .int (s0 &&& s1)), (0, va_rf (some a0)), (1, .int x1)]) C 3 dR_exact_171 rfl rfl (by decide) rfl ?_
  refine z_goto C 112 dR_exact_174 (by decide) ?_
  refine z_sub [2, 3, 1, 0] rfl ?_
  exact hK112 V n a0 x1 (s0 &&& s1) (x3 + 1) h
def fR_exact_168 (K112 : zV → Nat → Nat → Int32 → Int32 → Int32 → Option zR) (V : zV) (n : Nat) (a0 : Nat) (x1 : Int32) (x3 : Int32) (s0 : Int32) : Option zR :=
    fR_exact_169 K112 V n a0 x1 x3 s0 (0 : Int32)
set_option maxHeartbeats 4000000 in
set_option maxRecDepth 100000 in
theorem bR_exact_168 {x : zX} {w : zR} {K112 : zV → Nat → Nat → Int32 → Int32 → Int32 → Option zR} (C : zC x prog_9_method_39_code "BarrierMarksModel" "exact" 4 2 49 (some .boolean)) (M : zM x (zc w) (zs w)) (hK112 : ∀ (V : zV) (n : Nat) (a0 : Nat) (x1 : Int32) (x2 : Int32) (x3 : Int32), K112 V n a0 x1 x2 x3 = some w → zZ x 4 0 0 w V n 112 [(0, va_rf (some a0)), (1, .int x1), (2, .int x2), (3, .int x3)] []) : ∀ (V : zV) (n : Nat) (a0 : Nat) (x1 : Int32) (x3 : Int32) (s0 : Int32), fR_exact_168 K112 V n a0 x1 x3 s0 = some w → zZ x 4 0 0 w V n 168 [(0, va_rf (some a0)), (1, .int x1), (3, .int x3)] [.int s0] := by
  intro V n a0 x1 x3 s0 h
  unfold fR_exact_168 at h
  refine z_iconst (v := 0) C dR_exact_168 (by decide) ?_
  exact bR_exact_169 C M hK112 V n a0 x1 x3 s0 (0 : Int32) h
def fR_exact_112 : Nat → zV → Nat → Nat → Int32 → Int32 → Int32 → Option zR
  | 0 => fun _ _ _ _ _ _ => none
  | f9 + 1 => fun V n a0 x1 x2 x3 =>
    (zgI V (some a0) [6] 0).bind fun t1 =>
    if t1 ≤ x3 then (
    zrZ x2 V n) else (
    (zgR V (some a0) [6] 32).bind fun t2 =>
    (zaL V t2 1 x3).bind fun t3 =>
    (zgR V (some a0) [6] 25).bind fun t4 =>
    (zaL V t4 1 ((((8 : Int32) * x1) + x3))).bind fun t5 =>
    if (lg_cmp t3 t5) = 0 then (
    (zgR V (some a0) [6] 33).bind fun t6 =>
    (zaL V t6 1 x3).bind fun t7 =>
    (zgR V (some a0) [6] 26).bind fun t8 =>
    (zaI V t8 0 ((((8 : Int32) * x1) + x3))).bind fun t9 =>
    if (lg_cmp t7 t9.toInt64) = 0 then (
    fR_exact_169 (fR_exact_112 f9) V n a0 x1 x3 x2 (1 : Int32)) else (
    fR_exact_168 (fR_exact_112 f9) V n a0 x1 x3 x2)) else (
    fR_exact_168 (fR_exact_112 f9) V n a0 x1 x3 x2))
set_option maxHeartbeats 4000000 in
set_option maxRecDepth 100000 in
theorem bR_exact_112 {x : zX} {w : zR} (C : zC x prog_9_method_39_code "BarrierMarksModel" "exact" 4 2 49 (some .boolean)) (M : zM x (zc w) (zs w)) : ∀ (f9 : Nat) (V : zV) (n : Nat) (a0 : Nat) (x1 : Int32) (x2 : Int32) (x3 : Int32), fR_exact_112 f9 V n a0 x1 x2 x3 = some w → zZ x 4 0 0 w V n 112 [(0, va_rf (some a0)), (1, .int x1), (2, .int x2), (3, .int x3)] [] := by
  intro f9
  induction f9 with
  | zero =>
    intro V n a0 x1 x2 x3 h
    cases h
  | succ f9 ih =>
    intro V n a0 x1 x2 x3 h
    unfold fR_exact_112 at h
    refine z_iload_n C 3 dR_exact_112 rfl rfl ?_
    refine z_aload_n C 0 dR_exact_113 rfl rfl ?_
    refine z_getI C fl_R_96 dR_exact_114 h (fun t1 h => ?_)
    refine z_icmp_ge C 177 dR_exact_117 (by decide) h (fun h => ?_) (fun h => ?_)
    · refine z_iload_n C 2 dR_exact_177 rfl rfl ?_
      exact z_zret C M (Nat.zero_le _) (Nat.zero_le _) dR_exact_178 h
    · refine z_iload_n C 2 dR_exact_120 rfl rfl ?_
      refine z_aload_n C 0 dR_exact_121 rfl rfl ?_
      refine z_getR C fl_R_90 dR_exact_122 h (fun t2 h => ?_)
      refine z_iload_n C 3 dR_exact_125 rfl rfl ?_
      refine z_lald C rfl dR_exact_126 h (fun t3 h => ?_)
      refine z_aload_n C 0 dR_exact_127 rfl rfl ?_
      refine z_getR C fl_R_72 dR_exact_128 h (fun t4 h => ?_)
      refine z_bipush (v := 8) C dR_exact_131 (by decide) ?_
      refine z_iload_n C 1 dR_exact_133 rfl rfl ?_
      refine z_imul C dR_exact_134 ?_
      refine z_iload_n C 3 dR_exact_135 rfl rfl ?_
      refine z_iadd C dR_exact_136 ?_
      refine z_lald C rfl dR_exact_137 h (fun t5 h => ?_)
      refine z_lcmp C dR_exact_138 ?_
      refine z_if_ne C 168 dR_exact_139 (by decide) h (fun h => ?_) (fun h => ?_)
      · refine z_sub [0, 1, 3] rfl ?_
        exact bR_exact_168 C M ih V n a0 x1 x3 x2 h
      · refine z_aload_n C 0 dR_exact_142 rfl rfl ?_
        refine z_getR C fl_R_93 dR_exact_143 h (fun t6 h => ?_)
        refine z_iload_n C 3 dR_exact_146 rfl rfl ?_
        refine z_lald C rfl dR_exact_147 h (fun t7 h => ?_)
        refine z_aload_n C 0 dR_exact_148 rfl rfl ?_
        refine z_getR C fl_R_75 dR_exact_149 h (fun t8 h => ?_)
        refine z_bipush (v := 8) C dR_exact_152 (by decide) ?_
        refine z_iload_n C 1 dR_exact_154 rfl rfl ?_
        refine z_imul C dR_exact_155 ?_
        refine z_iload_n C 3 dR_exact_156 rfl rfl ?_
        refine z_iadd C dR_exact_157 ?_
        refine z_iald C rfl dR_exact_158 h (fun t9 h => ?_)
        refine z_i2l C dR_exact_159 ?_
        refine z_lcmp C dR_exact_160 ?_
        refine z_if_ne C 168 dR_exact_161 (by decide) h (fun h => ?_) (fun h => ?_)
        · refine z_sub [0, 1, 3] rfl ?_
          exact bR_exact_168 C M ih V n a0 x1 x3 x2 h
        · refine z_iconst (v := 1) C dR_exact_164 (by decide) ?_
          refine z_goto C 169 dR_exact_165 (by decide) ?_
          refine z_sub [0, 1, 3] rfl ?_
          exact bR_exact_169 C M ih V n a0 x1 x3 x2 (1 : Int32) h
def fR_exact_72 : Nat → zV → Nat → Nat → Int32 → Int32 → Option zR
  | 0 => fun _ _ _ _ _ => none
  | f9 + 1 => fun V n a0 x1 x2 =>
    (zgI V (some a0) [6] 0).bind fun t1 =>
    if t1 ≤ x2 then (
    fR_exact_112 zF V n a0 x1 (1 : Int32) (0 : Int32)) else (
    fR_exact_82 (fR_exact_72 f9) zF V n a0 x1 x2 (0 : Int32))
set_option maxHeartbeats 4000000 in
set_option maxRecDepth 100000 in
theorem bR_exact_72 {x : zX} {w : zR} (C : zC x prog_9_method_39_code "BarrierMarksModel" "exact" 4 2 49 (some .boolean)) (M : zM x (zc w) (zs w)) : ∀ (f9 : Nat) (V : zV) (n : Nat) (a0 : Nat) (x1 : Int32) (x2 : Int32), fR_exact_72 f9 V n a0 x1 x2 = some w → zZ x 4 0 0 w V n 72 [(0, va_rf (some a0)), (1, .int x1), (2, .int x2)] [] := by
  intro f9
  induction f9 with
  | zero =>
    intro V n a0 x1 x2 h
    cases h
  | succ f9 ih =>
    intro V n a0 x1 x2 h
    unfold fR_exact_72 at h
    refine z_iload_n C 2 dR_exact_72 rfl rfl ?_
    refine z_aload_n C 0 dR_exact_73 rfl rfl ?_
    refine z_getI C fl_R_96 dR_exact_74 h (fun t1 h => ?_)
    refine z_icmp_ge C 108 dR_exact_77 (by decide) h (fun h => ?_) (fun h => ?_)
    · refine z_iconst (v := 1) C dR_exact_108 (by decide) ?_
      refine z_istore_n (lv' := [(2, .int (1 : Int32)), (0, va_rf (some a0)), (1, .int x1)]) (i := 2) C dR_exact_109 rfl (by decide) rfl ?_
      refine z_iconst (v := 0) C dR_exact_110 (by decide) ?_
      refine z_istore_n (lv' := [(3, .int (0 : Int32)), (2, .int (1 : Int32)), (0, va_rf (some a0)), (1, .int x1)]) (i := 3) C dR_exact_111 rfl (by decide) rfl ?_
      refine z_sub [2, 3, 1, 0] rfl ?_
      exact bR_exact_112 C M zF V n a0 x1 (1 : Int32) (0 : Int32) h
    · refine z_iconst (v := 0) C dR_exact_80 (by decide) ?_
      refine z_istore_n (lv' := [(3, .int (0 : Int32)), (0, va_rf (some a0)), (1, .int x1), (2, .int x2)]) (i := 3) C dR_exact_81 rfl (by decide) rfl ?_
      refine z_sub [1, 2, 3, 0] rfl ?_
      exact bR_exact_82 C M ih zF V n a0 x1 x2 (0 : Int32) h
def fR_exact_42 : Nat → zV → Nat → Nat → Int32 → Int32 → Option zR
  | 0 => fun _ _ _ _ _ => none
  | f9 + 1 => fun V n a0 x1 x2 =>
    (zgI V (some a0) [6] 0).bind fun t1 =>
    if t1 ≤ x2 then (
    fR_exact_72 zF V n a0 x1 (0 : Int32)) else (
    (zgR V (some a0) [6] 32).bind fun t2 =>
    (zsL V t2 1 x2 (0 : Int64)).bind fun V =>
    (zgR V (some a0) [6] 33).bind fun t3 =>
    (zsL V t3 1 x2 (0 : Int64)).bind fun V =>
    (fR_exact_42 f9) V n a0 x1 (x2 + 1))
set_option maxHeartbeats 4000000 in
set_option maxRecDepth 100000 in
theorem bR_exact_42 {x : zX} {w : zR} (C : zC x prog_9_method_39_code "BarrierMarksModel" "exact" 4 2 49 (some .boolean)) (M : zM x (zc w) (zs w)) : ∀ (f9 : Nat) (V : zV) (n : Nat) (a0 : Nat) (x1 : Int32) (x2 : Int32), fR_exact_42 f9 V n a0 x1 x2 = some w → zZ x 4 0 0 w V n 42 [(0, va_rf (some a0)), (1, .int x1), (2, .int x2)] [] := by
  intro f9
  induction f9 with
  | zero =>
    intro V n a0 x1 x2 h
    cases h
  | succ f9 ih =>
    intro V n a0 x1 x2 h
    unfold fR_exact_42 at h
    refine z_iload_n C 2 dR_exact_42 rfl rfl ?_
    refine z_aload_n C 0 dR_exact_43 rfl rfl ?_
    refine z_getI C fl_R_96 dR_exact_44 h (fun t1 h => ?_)
    refine z_icmp_ge C 70 dR_exact_47 (by decide) h (fun h => ?_) (fun h => ?_)
    · refine z_iconst (v := 0) C dR_exact_70 (by decide) ?_
      refine z_istore_n (lv' := [(2, .int (0 : Int32)), (0, va_rf (some a0)), (1, .int x1)]) (i := 2) C dR_exact_71 rfl (by decide) rfl ?_
      refine z_sub [1, 2, 0] rfl ?_
      exact bR_exact_72 C M zF V n a0 x1 (0 : Int32) h
    · refine z_aload_n C 0 dR_exact_50 rfl rfl ?_
      refine z_getR C fl_R_90 dR_exact_51 h (fun t2 h => ?_)
      refine z_iload_n C 2 dR_exact_54 rfl rfl ?_
      refine z_lconst (v := 0) C dR_exact_55 (by decide) ?_
      refine z_last C rfl dR_exact_56 h (fun V h => ?_)
      refine z_aload_n C 0 dR_exact_57 rfl rfl ?_
      refine z_getR C fl_R_93 dR_exact_58 h (fun t3 h => ?_)
      refine z_iload_n C 2 dR_exact_61 rfl rfl ?_
      refine z_lconst (v := 0) C dR_exact_62 (by decide) ?_
      refine z_last C rfl dR_exact_63 h (fun V h => ?_)
      refine z_iinc (lv' := [(2, .int (x2 + 1)), (0, va_rf (some a0)), (1, .int x1)]) C 2 dR_exact_64 rfl rfl (by decide) rfl ?_
      refine z_goto C 42 dR_exact_67 (by decide) ?_
      refine z_sub [1, 2, 0] rfl ?_
      exact ih V n a0 x1 (x2 + 1) h
def fR_exact_28 (V : zV) (n : Nat) (a0 : Nat) (x1 : Int32) (s0 : Option Nat) (s1 : Int32) : Option zR :=
    (zpI V s0 [6] 1 s1).bind fun V =>
    (zgI V (some a0) [6] 1).bind fun t1 =>
    if t1 ≤ 0 then (
    fR_exact_42 zF V n a0 x1 (0 : Int32)) else (
    zrZ (0 : Int32) V n)
set_option maxHeartbeats 4000000 in
set_option maxRecDepth 100000 in
theorem bR_exact_28 {x : zX} {w : zR} (C : zC x prog_9_method_39_code "BarrierMarksModel" "exact" 4 2 49 (some .boolean)) (M : zM x (zc w) (zs w)) : ∀ (V : zV) (n : Nat) (a0 : Nat) (x1 : Int32) (s0 : Option Nat) (s1 : Int32), fR_exact_28 V n a0 x1 s0 s1 = some w → zZ x 4 0 0 w V n 28 [(0, va_rf (some a0)), (1, .int x1)] [.int s1, va_rf s0] := by
  intro V n a0 x1 s0 s1 h
  unfold fR_exact_28 at h
  refine z_putI C pf_R_100 (fun h => absurd h (by decide)) dR_exact_28 h (fun V h => ?_)
  refine z_aload_n C 0 dR_exact_31 rfl rfl ?_
  refine z_getI C fl_R_100 dR_exact_32 h (fun t1 h => ?_)
  refine z_if_le C 40 dR_exact_35 (by decide) h (fun h => ?_) (fun h => ?_)
  · refine z_iconst (v := 0) C dR_exact_40 (by decide) ?_
    refine z_istore_n (lv' := [(2, .int (0 : Int32)), (0, va_rf (some a0)), (1, .int x1)]) (i := 2) C dR_exact_41 rfl (by decide) rfl ?_
    refine z_sub [1, 2, 0] rfl ?_
    exact bR_exact_42 C M zF V n a0 x1 (0 : Int32) h
  · refine z_iconst (v := 0) C dR_exact_38 (by decide) ?_
    exact z_zret C M (Nat.zero_le _) (Nat.zero_le _) dR_exact_39 h
def fR_exact (V : zV) (n : Nat) (a0 : Nat) (x1 : Int32) : Option zR :=
    (z_obj V (some a0) [6]).bind fun o => zcI (fR_isMark V n o.1 x1) fun t1 V n =>
    if t1 = 0 then (
    fR_exact_28 V n a0 x1 (some a0) (1 : Int32)) else (
    (zgR V (some a0) [6] 20).bind fun t2 =>
    (zaI V t2 0 x1).bind fun t3 =>
    if t3 = (1 : Int32) then (
    fR_exact_28 V n a0 x1 (some a0) (0 : Int32)) else (
    fR_exact_28 V n a0 x1 (some a0) (2 : Int32)))
set_option maxHeartbeats 4000000 in
set_option maxRecDepth 100000 in
theorem bR_exact {x : zX} {w : zR} (C : zC x prog_9_method_39_code "BarrierMarksModel" "exact" 4 2 49 (some .boolean)) (M : zM x (zc w) (zs w)) : ∀ (V : zV) (n : Nat) (a0 : Nat) (x1 : Int32), fR_exact V n a0 x1 = some w → zZ x 4 0 0 w V n 0 [(0, va_rf (some a0)), (1, .int x1)] [] := by
  intro V n a0 x1 h
  unfold fR_exact at h
  refine z_aload_n C 0 dR_exact_0 rfl rfl ?_
  refine z_aload_n C 0 dR_exact_1 rfl rfl ?_
  refine z_iload_n C 1 dR_exact_2 rfl rfl ?_
  refine z_vPI (ci := 6) C M zRmP [.int x1] cv_R_182 rfl (by decide) (by decide) rfl rfl (by first | decide | (simp [zrfcat, zicat, zlcat]; done)) dR_exact_3 (fun b => fR_isMark V n b x1) h (fun b w1 e1 l D dA hl => mR_isMark hl e1) (fun t1 V n h => ?_)
  refine z_if_ne C 13 dR_exact_6 (by decide) h (fun h => ?_) (fun h => ?_)
  · refine z_aload_n C 0 dR_exact_13 rfl rfl ?_
    refine z_getR C fl_R_57 dR_exact_14 h (fun t2 h => ?_)
    refine z_iload_n C 1 dR_exact_17 rfl rfl ?_
    refine z_iald C rfl dR_exact_18 h (fun t3 h => ?_)
    refine z_iconst (v := 1) C dR_exact_19 (by decide) ?_
    refine z_icmp_eq C 27 dR_exact_20 (by decide) h (fun h => ?_) (fun h => ?_)
    · refine z_iconst (v := 0) C dR_exact_27 (by decide) ?_
      exact bR_exact_28 C M V n a0 x1 (some a0) (0 : Int32) h
    · refine z_iconst (v := 2) C dR_exact_23 (by decide) ?_
      refine z_goto C 28 dR_exact_24 (by decide) ?_
      exact bR_exact_28 C M V n a0 x1 (some a0) (2 : Int32) h
  · refine z_iconst (v := 1) C dR_exact_9 (by decide) ?_
    refine z_goto C 28 dR_exact_10 (by decide) ?_
    exact bR_exact_28 C M V n a0 x1 (some a0) (1 : Int32) h
theorem mR_exact {l : Launch} {D : va_G} {dA : Nat → ClassId} {V : zV} {n : Nat} (hl : l.stackTraces = false) {a0 : Nat} {x1 : Int32} {w : zR} (h : fR_exact V n a0 x1 = some w) : z_Met l ⟨"BarrierMarksModel", "exact", "(I)Z"⟩ prog_9_method_39_code 4 (some .boolean) 2 49 (zc w) (zs w) [.ref a0, .int x1] D dA V n w := by exact z_ofZ hl (by decide) (Nat.le_of_ble_eq_true rfl) (fun x C M => bR_exact C M V n a0 x1 h)
/-! BarrierMarksModel.held(I)I -/
def fR_held_14 (V : zV) (n : Nat) (a0 : Nat) (x1 : Int32) (s0 : Option Nat) (s1 : Int32) : Option zR :=
    (zpI V s0 [6] 1 s1).bind fun V =>
    (zgI V (some a0) [6] 1).bind fun t1 =>
    if t1 ≤ 0 then (
    (zgR V (some a0) [6] 18).bind fun t2 =>
    (zaI V t2 0 x1).bind fun t3 =>
    zrI t3 V n) else (
    zrI (0 : Int32) V n)
set_option maxHeartbeats 4000000 in
set_option maxRecDepth 100000 in
theorem bR_held_14 {x : zX} {w : zR} (C : zC x prog_9_method_41_code "BarrierMarksModel" "held" 2 1 21 (some .int)) (M : zM x (zc w) (zs w)) : ∀ (V : zV) (n : Nat) (a0 : Nat) (x1 : Int32) (s0 : Option Nat) (s1 : Int32), fR_held_14 V n a0 x1 s0 s1 = some w → zZ x 2 0 0 w V n 14 [(0, va_rf (some a0)), (1, .int x1)] [.int s1, va_rf s0] := by
  intro V n a0 x1 s0 s1 h
  unfold fR_held_14 at h
  refine z_putI C pf_R_100 (fun h => absurd h (by decide)) dR_held_14 h (fun V h => ?_)
  refine z_aload_n C 0 dR_held_17 rfl rfl ?_
  refine z_getI C fl_R_100 dR_held_18 h (fun t1 h => ?_)
  refine z_if_le C 28 dR_held_21 (by decide) h (fun h => ?_) (fun h => ?_)
  · refine z_aload_n C 0 dR_held_28 rfl rfl ?_
    refine z_getR C fl_R_54 dR_held_29 h (fun t2 h => ?_)
    refine z_iload_n C 1 dR_held_32 rfl rfl ?_
    refine z_iald C rfl dR_held_33 h (fun t3 h => ?_)
    exact z_iret C M (Nat.zero_le _) (Nat.zero_le _) dR_held_34 h
  · refine z_iconst (v := 0) C dR_held_24 (by decide) ?_
    refine z_goto C 34 dR_held_25 (by decide) ?_
    exact z_iret C M (Nat.zero_le _) (Nat.zero_le _) dR_held_34 h
def fR_held (V : zV) (n : Nat) (a0 : Nat) (x1 : Int32) : Option zR :=
    (z_obj V (some a0) [6]).bind fun o => zcI (fR_isChannel V n o.1 x1) fun t1 V n =>
    if t1 = 0 then (
    fR_held_14 V n a0 x1 (some a0) (1 : Int32)) else (
    fR_held_14 V n a0 x1 (some a0) (0 : Int32))
set_option maxHeartbeats 4000000 in
set_option maxRecDepth 100000 in
theorem bR_held {x : zX} {w : zR} (C : zC x prog_9_method_41_code "BarrierMarksModel" "held" 2 1 21 (some .int)) (M : zM x (zc w) (zs w)) : ∀ (V : zV) (n : Nat) (a0 : Nat) (x1 : Int32), fR_held V n a0 x1 = some w → zZ x 2 0 0 w V n 0 [(0, va_rf (some a0)), (1, .int x1)] [] := by
  intro V n a0 x1 h
  unfold fR_held at h
  refine z_aload_n C 0 dR_held_0 rfl rfl ?_
  refine z_aload_n C 0 dR_held_1 rfl rfl ?_
  refine z_iload_n C 1 dR_held_2 rfl rfl ?_
  refine z_vPI (ci := 6) C M zRmP [.int x1] cv_R_124 rfl (by decide) (by decide) rfl rfl (by first | decide | (simp [zrfcat, zicat, zlcat]; done)) dR_held_3 (fun b => fR_isChannel V n b x1) h (fun b w1 e1 l D dA hl => mR_isChannel hl e1) (fun t1 V n h => ?_)
  refine z_if_eq C 13 dR_held_6 (by decide) h (fun h => ?_) (fun h => ?_)
  · refine z_iconst (v := 1) C dR_held_13 (by decide) ?_
    exact bR_held_14 C M V n a0 x1 (some a0) (1 : Int32) h
  · refine z_iconst (v := 0) C dR_held_9 (by decide) ?_
    refine z_goto C 14 dR_held_10 (by decide) ?_
    exact bR_held_14 C M V n a0 x1 (some a0) (0 : Int32) h
theorem mR_held {l : Launch} {D : va_G} {dA : Nat → ClassId} {V : zV} {n : Nat} (hl : l.stackTraces = false) {a0 : Nat} {x1 : Int32} {w : zR} (h : fR_held V n a0 x1 = some w) : z_Met l ⟨"BarrierMarksModel", "held", "(I)I"⟩ prog_9_method_41_code 2 (some .int) 1 21 (zc w) (zs w) [.ref a0, .int x1] D dA V n w := by exact z_ofZ hl (by decide) (Nat.le_of_ble_eq_true rfl) (fun x C M => bR_held C M V n a0 x1 h)
/-! BarrierMarksModel.waiting(I)I -/
def fR_waiting_14 (V : zV) (n : Nat) (a0 : Nat) (x1 : Int32) (s0 : Option Nat) (s1 : Int32) : Option zR :=
    (zpI V s0 [6] 1 s1).bind fun V =>
    (zgI V (some a0) [6] 1).bind fun t1 =>
    if t1 ≤ 0 then (
    (z_obj V (some a0) [6]).bind fun o => zcI (fR_isSource V n o.1 x1) fun t2 V n =>
    if t2 = 0 then (
    (zgR V (some a0) [6] 12).bind fun t3 =>
    (zaI V t3 0 x1).bind fun t4 =>
    zrI t4 V n) else (
    (zgR V (some a0) [6] 14).bind fun t5 =>
    (zaI V t5 0 x1).bind fun t6 =>
    (zgR V (some a0) [6] 16).bind fun t7 =>
    (zaI V t7 0 x1).bind fun t8 =>
    zrI (t6 - t8) V n)) else (
    zrI (0 : Int32) V n)
set_option maxHeartbeats 4000000 in
set_option maxRecDepth 100000 in
theorem bR_waiting_14 {x : zX} {w : zR} (C : zC x prog_9_method_42_code "BarrierMarksModel" "waiting" 2 1 21 (some .int)) (M : zM x (zc w) (zs w)) : ∀ (V : zV) (n : Nat) (a0 : Nat) (x1 : Int32) (s0 : Option Nat) (s1 : Int32), fR_waiting_14 V n a0 x1 s0 s1 = some w → zZ x 2 0 0 w V n 14 [(0, va_rf (some a0)), (1, .int x1)] [.int s1, va_rf s0] := by
  intro V n a0 x1 s0 s1 h
  unfold fR_waiting_14 at h
  refine z_putI C pf_R_100 (fun h => absurd h (by decide)) dR_waiting_14 h (fun V h => ?_)
  refine z_aload_n C 0 dR_waiting_17 rfl rfl ?_
  refine z_getI C fl_R_100 dR_waiting_18 h (fun t1 h => ?_)
  refine z_if_le C 28 dR_waiting_21 (by decide) h (fun h => ?_) (fun h => ?_)
  · refine z_aload_n C 0 dR_waiting_28 rfl rfl ?_
    refine z_iload_n C 1 dR_waiting_29 rfl rfl ?_
    refine z_vPI (ci := 6) C M zRmP [.int x1] cv_R_127 rfl (by decide) (by decide) rfl rfl (Nat.zero_le _) dR_waiting_30 (fun b => fR_isSource V n b x1) h (fun b w1 e1 l D dA hl => mR_isSource hl e1) (fun t2 V n h => ?_)
    refine z_if_eq C 52 dR_waiting_33 (by decide) h (fun h => ?_) (fun h => ?_)
    · refine z_aload_n C 0 dR_waiting_52 rfl rfl ?_
      refine z_getR C fl_R_36 dR_waiting_53 h (fun t3 h => ?_)
      refine z_iload_n C 1 dR_waiting_56 rfl rfl ?_
      refine z_iald C rfl dR_waiting_57 h (fun t4 h => ?_)
      exact z_iret C M (Nat.zero_le _) (Nat.zero_le _) dR_waiting_58 h
    · refine z_aload_n C 0 dR_waiting_36 rfl rfl ?_
      refine z_getR C fl_R_42 dR_waiting_37 h (fun t5 h => ?_)
      refine z_iload_n C 1 dR_waiting_40 rfl rfl ?_
      refine z_iald C rfl dR_waiting_41 h (fun t6 h => ?_)
      refine z_aload_n C 0 dR_waiting_42 rfl rfl ?_
      refine z_getR C fl_R_48 dR_waiting_43 h (fun t7 h => ?_)
      refine z_iload_n C 1 dR_waiting_46 rfl rfl ?_
      refine z_iald C rfl dR_waiting_47 h (fun t8 h => ?_)
      refine z_isub C dR_waiting_48 ?_
      refine z_goto C 58 dR_waiting_49 (by decide) ?_
      exact z_iret C M (Nat.zero_le _) (Nat.zero_le _) dR_waiting_58 h
  · refine z_iconst (v := 0) C dR_waiting_24 (by decide) ?_
    refine z_goto C 58 dR_waiting_25 (by decide) ?_
    exact z_iret C M (Nat.zero_le _) (Nat.zero_le _) dR_waiting_58 h
def fR_waiting (V : zV) (n : Nat) (a0 : Nat) (x1 : Int32) : Option zR :=
    (z_obj V (some a0) [6]).bind fun o => zcI (fR_isChannel V n o.1 x1) fun t1 V n =>
    if t1 = 0 then (
    fR_waiting_14 V n a0 x1 (some a0) (1 : Int32)) else (
    fR_waiting_14 V n a0 x1 (some a0) (0 : Int32))
set_option maxHeartbeats 4000000 in
set_option maxRecDepth 100000 in
theorem bR_waiting {x : zX} {w : zR} (C : zC x prog_9_method_42_code "BarrierMarksModel" "waiting" 2 1 21 (some .int)) (M : zM x (zc w) (zs w)) : ∀ (V : zV) (n : Nat) (a0 : Nat) (x1 : Int32), fR_waiting V n a0 x1 = some w → zZ x 2 0 0 w V n 0 [(0, va_rf (some a0)), (1, .int x1)] [] := by
  intro V n a0 x1 h
  unfold fR_waiting at h
  refine z_aload_n C 0 dR_waiting_0 rfl rfl ?_
  refine z_aload_n C 0 dR_waiting_1 rfl rfl ?_
  refine z_iload_n C 1 dR_waiting_2 rfl rfl ?_
  refine z_vPI (ci := 6) C M zRmP [.int x1] cv_R_124 rfl (by decide) (by decide) rfl rfl (by first | decide | (simp [zrfcat, zicat, zlcat]; done)) dR_waiting_3 (fun b => fR_isChannel V n b x1) h (fun b w1 e1 l D dA hl => mR_isChannel hl e1) (fun t1 V n h => ?_)
  refine z_if_eq C 13 dR_waiting_6 (by decide) h (fun h => ?_) (fun h => ?_)
  · refine z_iconst (v := 1) C dR_waiting_13 (by decide) ?_
    exact bR_waiting_14 C M V n a0 x1 (some a0) (1 : Int32) h
  · refine z_iconst (v := 0) C dR_waiting_9 (by decide) ?_
    refine z_goto C 14 dR_waiting_10 (by decide) ?_
    exact bR_waiting_14 C M V n a0 x1 (some a0) (0 : Int32) h
theorem mR_waiting {l : Launch} {D : va_G} {dA : Nat → ClassId} {V : zV} {n : Nat} (hl : l.stackTraces = false) {a0 : Nat} {x1 : Int32} {w : zR} (h : fR_waiting V n a0 x1 = some w) : z_Met l ⟨"BarrierMarksModel", "waiting", "(I)I"⟩ prog_9_method_42_code 2 (some .int) 1 21 (zc w) (zs w) [.ref a0, .int x1] D dA V n w := by exact z_ofZ hl (by decide) (Nat.le_of_ble_eq_true rfl) (fun x C M => bR_waiting C M V n a0 x1 h)
/-! BarrierMarksModel.isThing(II)Z -/
def fR_isThing_34 (V : zV) (n : Nat) : Option zR :=
    zrZ (0 : Int32) V n
set_option maxHeartbeats 4000000 in
set_option maxRecDepth 100000 in
theorem bR_isThing_34 {x : zX} {w : zR} (C : zC x prog_9_method_43_code "BarrierMarksModel" "isThing" 3 1 21 (some .boolean)) (M : zM x (zc w) (zs w)) : ∀ (V : zV) (n : Nat), fR_isThing_34 V n = some w → zZ x 3 0 0 w V n 34 [] [] := by
  intro V n h
  unfold fR_isThing_34 at h
  refine z_iconst (v := 0) C dR_isThing_34 (by decide) ?_
  exact z_zret C M (Nat.zero_le _) (Nat.zero_le _) dR_isThing_35 h
def fR_isThing (V : zV) (n : Nat) (a0 : Nat) (x1 : Int32) (x2 : Int32) : Option zR :=
    (z_obj V (some a0) [6]).bind fun o => zcI (fR_isChannel V n o.1 x1) fun t1 V n =>
    if t1 = 0 then (
    fR_isThing_34 V n) else (
    (z_obj V (some a0) [6]).bind fun o => zcI (fR_isSource V n o.1 x1) fun t2 V n =>
    if t2 = 0 then (
    if x2 < 0 then (
    fR_isThing_34 V n) else (
    (zgR V (some a0) [6] 12).bind fun t3 =>
    (zaI V t3 0 x1).bind fun t4 =>
    if t4 ≤ x2 then (
    fR_isThing_34 V n) else (
    zrZ (1 : Int32) V n))) else (
    fR_isThing_34 V n))
set_option maxHeartbeats 4000000 in
set_option maxRecDepth 100000 in
theorem bR_isThing {x : zX} {w : zR} (C : zC x prog_9_method_43_code "BarrierMarksModel" "isThing" 3 1 21 (some .boolean)) (M : zM x (zc w) (zs w)) : ∀ (V : zV) (n : Nat) (a0 : Nat) (x1 : Int32) (x2 : Int32), fR_isThing V n a0 x1 x2 = some w → zZ x 3 0 0 w V n 0 [(0, va_rf (some a0)), (1, .int x1), (2, .int x2)] [] := by
  intro V n a0 x1 x2 h
  unfold fR_isThing at h
  refine z_aload_n C 0 dR_isThing_0 rfl rfl ?_
  refine z_iload_n C 1 dR_isThing_1 rfl rfl ?_
  refine z_vPI (ci := 6) C M zRmP [.int x1] cv_R_124 rfl (by decide) (by decide) rfl rfl (Nat.zero_le _) dR_isThing_2 (fun b => fR_isChannel V n b x1) h (fun b w1 e1 l D dA hl => mR_isChannel hl e1) (fun t1 V n h => ?_)
  refine z_if_eq C 34 dR_isThing_5 (by decide) h (fun h => ?_) (fun h => ?_)
  · refine z_sub [] rfl ?_
    exact bR_isThing_34 C M V n h
  · refine z_aload_n C 0 dR_isThing_8 rfl rfl ?_
    refine z_iload_n C 1 dR_isThing_9 rfl rfl ?_
    refine z_vPI (ci := 6) C M zRmP [.int x1] cv_R_127 rfl (by decide) (by decide) rfl rfl (Nat.zero_le _) dR_isThing_10 (fun b => fR_isSource V n b x1) h (fun b w1 e1 l D dA hl => mR_isSource hl e1) (fun t2 V n h => ?_)
    refine z_if_ne C 34 dR_isThing_13 (by decide) h (fun h => ?_) (fun h => ?_)
    · refine z_sub [] rfl ?_
      exact bR_isThing_34 C M V n h
    · refine z_iload_n C 2 dR_isThing_16 rfl rfl ?_
      refine z_if_lt C 34 dR_isThing_17 (by decide) h (fun h => ?_) (fun h => ?_)
      · refine z_sub [] rfl ?_
        exact bR_isThing_34 C M V n h
      · refine z_iload_n C 2 dR_isThing_20 rfl rfl ?_
        refine z_aload_n C 0 dR_isThing_21 rfl rfl ?_
        refine z_getR C fl_R_36 dR_isThing_22 h (fun t3 h => ?_)
        refine z_iload_n C 1 dR_isThing_25 rfl rfl ?_
        refine z_iald C rfl dR_isThing_26 h (fun t4 h => ?_)
        refine z_icmp_ge C 34 dR_isThing_27 (by decide) h (fun h => ?_) (fun h => ?_)
        · refine z_sub [] rfl ?_
          exact bR_isThing_34 C M V n h
        · refine z_iconst (v := 1) C dR_isThing_30 (by decide) ?_
          refine z_goto C 35 dR_isThing_31 (by decide) ?_
          exact z_zret C M (Nat.zero_le _) (Nat.zero_le _) dR_isThing_35 h
theorem mR_isThing {l : Launch} {D : va_G} {dA : Nat → ClassId} {V : zV} {n : Nat} (hl : l.stackTraces = false) {a0 : Nat} {x1 : Int32} {x2 : Int32} {w : zR} (h : fR_isThing V n a0 x1 x2 = some w) : z_Met l ⟨"BarrierMarksModel", "isThing", "(II)Z"⟩ prog_9_method_43_code 3 (some .boolean) 1 21 (zc w) (zs w) [.ref a0, .int x1, .int x2] D dA V n w := by exact z_ofZ hl (by decide) (Nat.le_of_ble_eq_true rfl) (fun x C M => bR_isThing C M V n a0 x1 x2 h)
/-! BarrierMarksModel.kind(II)I -/
def fR_kind_15 (V : zV) (n : Nat) (a0 : Nat) (x1 : Int32) (x2 : Int32) (s0 : Option Nat) (s1 : Int32) : Option zR :=
    (zpI V s0 [6] 1 s1).bind fun V =>
    (zgI V (some a0) [6] 1).bind fun t1 =>
    if t1 ≤ 0 then (
    (zgR V (some a0) [6] 10).bind fun t2 =>
    (zaI V t2 0 ((((16 : Int32) * x1) + x2))).bind fun t3 =>
    zrI t3 V n) else (
    zrI (0 : Int32) V n)
set_option maxHeartbeats 4000000 in
set_option maxRecDepth 100000 in
theorem bR_kind_15 {x : zX} {w : zR} (C : zC x prog_9_method_44_code "BarrierMarksModel" "kind" 3 2 43 (some .int)) (M : zM x (zc w) (zs w)) : ∀ (V : zV) (n : Nat) (a0 : Nat) (x1 : Int32) (x2 : Int32) (s0 : Option Nat) (s1 : Int32), fR_kind_15 V n a0 x1 x2 s0 s1 = some w → zZ x 3 0 0 w V n 15 [(0, va_rf (some a0)), (1, .int x1), (2, .int x2)] [.int s1, va_rf s0] := by
  intro V n a0 x1 x2 s0 s1 h
  unfold fR_kind_15 at h
  refine z_putI C pf_R_100 (fun h => absurd h (by decide)) dR_kind_15 h (fun V h => ?_)
  refine z_aload_n C 0 dR_kind_18 rfl rfl ?_
  refine z_getI C fl_R_100 dR_kind_19 h (fun t1 h => ?_)
  refine z_if_le C 29 dR_kind_22 (by decide) h (fun h => ?_) (fun h => ?_)
  · refine z_aload_n C 0 dR_kind_29 rfl rfl ?_
    refine z_getR C fl_R_30 dR_kind_30 h (fun t2 h => ?_)
    refine z_bipush (v := 16) C dR_kind_33 (by decide) ?_
    refine z_iload_n C 1 dR_kind_35 rfl rfl ?_
    refine z_imul C dR_kind_36 ?_
    refine z_iload_n C 2 dR_kind_37 rfl rfl ?_
    refine z_iadd C dR_kind_38 ?_
    refine z_iald C rfl dR_kind_39 h (fun t3 h => ?_)
    exact z_iret C M (Nat.zero_le _) (Nat.zero_le _) dR_kind_40 h
  · refine z_iconst (v := 0) C dR_kind_25 (by decide) ?_
    refine z_goto C 40 dR_kind_26 (by decide) ?_
    exact z_iret C M (Nat.zero_le _) (Nat.zero_le _) dR_kind_40 h
def fR_kind (V : zV) (n : Nat) (a0 : Nat) (x1 : Int32) (x2 : Int32) : Option zR :=
    (z_obj V (some a0) [6]).bind fun o => zcI (fR_isThing V n o.1 x1 x2) fun t1 V n =>
    if t1 = 0 then (
    fR_kind_15 V n a0 x1 x2 (some a0) (1 : Int32)) else (
    fR_kind_15 V n a0 x1 x2 (some a0) (0 : Int32))
set_option maxHeartbeats 4000000 in
set_option maxRecDepth 100000 in
theorem bR_kind {x : zX} {w : zR} (C : zC x prog_9_method_44_code "BarrierMarksModel" "kind" 3 2 43 (some .int)) (M : zM x (zc w) (zs w)) : ∀ (V : zV) (n : Nat) (a0 : Nat) (x1 : Int32) (x2 : Int32), fR_kind V n a0 x1 x2 = some w → zZ x 3 0 0 w V n 0 [(0, va_rf (some a0)), (1, .int x1), (2, .int x2)] [] := by
  intro V n a0 x1 x2 h
  unfold fR_kind at h
  refine z_aload_n C 0 dR_kind_0 rfl rfl ?_
  refine z_aload_n C 0 dR_kind_1 rfl rfl ?_
  refine z_iload_n C 1 dR_kind_2 rfl rfl ?_
  refine z_iload_n C 2 dR_kind_3 rfl rfl ?_
  refine z_vPI (ci := 6) C M zRmP [.int x1, .int x2] cv_R_188 rfl (by decide) (by decide) rfl rfl (by first | decide | (simp [zrfcat, zicat, zlcat]; done)) dR_kind_4 (fun b => fR_isThing V n b x1 x2) h (fun b w1 e1 l D dA hl => mR_isThing hl e1) (fun t1 V n h => ?_)
  refine z_if_eq C 14 dR_kind_7 (by decide) h (fun h => ?_) (fun h => ?_)
  · refine z_iconst (v := 1) C dR_kind_14 (by decide) ?_
    exact bR_kind_15 C M V n a0 x1 x2 (some a0) (1 : Int32) h
  · refine z_iconst (v := 0) C dR_kind_10 (by decide) ?_
    refine z_goto C 15 dR_kind_11 (by decide) ?_
    exact bR_kind_15 C M V n a0 x1 x2 (some a0) (0 : Int32) h
theorem mR_kind {l : Launch} {D : va_G} {dA : Nat → ClassId} {V : zV} {n : Nat} (hl : l.stackTraces = false) {a0 : Nat} {x1 : Int32} {x2 : Int32} {w : zR} (h : fR_kind V n a0 x1 x2 = some w) : z_Met l ⟨"BarrierMarksModel", "kind", "(II)I"⟩ prog_9_method_44_code 3 (some .int) 2 43 (zc w) (zs w) [.ref a0, .int x1, .int x2] D dA V n w := by exact z_ofZ hl (by decide) (Nat.le_of_ble_eq_true rfl) (fun x C M => bR_kind C M V n a0 x1 x2 h)
/-! BarrierMarksModel.value(II)J -/
def fR_value_15 (V : zV) (n : Nat) (a0 : Nat) (x1 : Int32) (x2 : Int32) (s0 : Option Nat) (s1 : Int32) : Option zR :=
    (zpI V s0 [6] 1 s1).bind fun V =>
    (zgI V (some a0) [6] 1).bind fun t1 =>
    if t1 ≤ 0 then (
    (zgR V (some a0) [6] 11).bind fun t2 =>
    (zaL V t2 1 ((((16 : Int32) * x1) + x2))).bind fun t3 =>
    zrL t3 V n) else (
    zrL (0 : Int64) V n)
set_option maxHeartbeats 4000000 in
set_option maxRecDepth 100000 in
theorem bR_value_15 {x : zX} {w : zR} (C : zC x prog_9_method_45_code "BarrierMarksModel" "value" 3 2 43 (some .long)) (M : zM x (zc w) (zs w)) : ∀ (V : zV) (n : Nat) (a0 : Nat) (x1 : Int32) (x2 : Int32) (s0 : Option Nat) (s1 : Int32), fR_value_15 V n a0 x1 x2 s0 s1 = some w → zZ x 3 0 0 w V n 15 [(0, va_rf (some a0)), (1, .int x1), (2, .int x2)] [.int s1, va_rf s0] := by
  intro V n a0 x1 x2 s0 s1 h
  unfold fR_value_15 at h
  refine z_putI C pf_R_100 (fun h => absurd h (by decide)) dR_value_15 h (fun V h => ?_)
  refine z_aload_n C 0 dR_value_18 rfl rfl ?_
  refine z_getI C fl_R_100 dR_value_19 h (fun t1 h => ?_)
  refine z_if_le C 29 dR_value_22 (by decide) h (fun h => ?_) (fun h => ?_)
  · refine z_aload_n C 0 dR_value_29 rfl rfl ?_
    refine z_getR C fl_R_33 dR_value_30 h (fun t2 h => ?_)
    refine z_bipush (v := 16) C dR_value_33 (by decide) ?_
    refine z_iload_n C 1 dR_value_35 rfl rfl ?_
    refine z_imul C dR_value_36 ?_
    refine z_iload_n C 2 dR_value_37 rfl rfl ?_
    refine z_iadd C dR_value_38 ?_
    refine z_lald C rfl dR_value_39 h (fun t3 h => ?_)
    exact z_lret C M (Nat.zero_le _) (Nat.zero_le _) dR_value_40 h
  · refine z_lconst (v := 0) C dR_value_25 (by decide) ?_
    refine z_goto C 40 dR_value_26 (by decide) ?_
    exact z_lret C M (Nat.zero_le _) (Nat.zero_le _) dR_value_40 h
def fR_value (V : zV) (n : Nat) (a0 : Nat) (x1 : Int32) (x2 : Int32) : Option zR :=
    (z_obj V (some a0) [6]).bind fun o => zcI (fR_isThing V n o.1 x1 x2) fun t1 V n =>
    if t1 = 0 then (
    fR_value_15 V n a0 x1 x2 (some a0) (1 : Int32)) else (
    fR_value_15 V n a0 x1 x2 (some a0) (0 : Int32))
set_option maxHeartbeats 4000000 in
set_option maxRecDepth 100000 in
theorem bR_value {x : zX} {w : zR} (C : zC x prog_9_method_45_code "BarrierMarksModel" "value" 3 2 43 (some .long)) (M : zM x (zc w) (zs w)) : ∀ (V : zV) (n : Nat) (a0 : Nat) (x1 : Int32) (x2 : Int32), fR_value V n a0 x1 x2 = some w → zZ x 3 0 0 w V n 0 [(0, va_rf (some a0)), (1, .int x1), (2, .int x2)] [] := by
  intro V n a0 x1 x2 h
  unfold fR_value at h
  refine z_aload_n C 0 dR_value_0 rfl rfl ?_
  refine z_aload_n C 0 dR_value_1 rfl rfl ?_
  refine z_iload_n C 1 dR_value_2 rfl rfl ?_
  refine z_iload_n C 2 dR_value_3 rfl rfl ?_
  refine z_vPI (ci := 6) C M zRmP [.int x1, .int x2] cv_R_188 rfl (by decide) (by decide) rfl rfl (by first | decide | (simp [zrfcat, zicat, zlcat]; done)) dR_value_4 (fun b => fR_isThing V n b x1 x2) h (fun b w1 e1 l D dA hl => mR_isThing hl e1) (fun t1 V n h => ?_)
  refine z_if_eq C 14 dR_value_7 (by decide) h (fun h => ?_) (fun h => ?_)
  · refine z_iconst (v := 1) C dR_value_14 (by decide) ?_
    exact bR_value_15 C M V n a0 x1 x2 (some a0) (1 : Int32) h
  · refine z_iconst (v := 0) C dR_value_10 (by decide) ?_
    refine z_goto C 15 dR_value_11 (by decide) ?_
    exact bR_value_15 C M V n a0 x1 x2 (some a0) (0 : Int32) h
theorem mR_value {l : Launch} {D : va_G} {dA : Nat → ClassId} {V : zV} {n : Nat} (hl : l.stackTraces = false) {a0 : Nat} {x1 : Int32} {x2 : Int32} {w : zR} (h : fR_value V n a0 x1 x2 = some w) : z_Met l ⟨"BarrierMarksModel", "value", "(II)J"⟩ prog_9_method_45_code 3 (some .long) 2 43 (zc w) (zs w) [.ref a0, .int x1, .int x2] D dA V n w := by exact z_ofZ hl (by decide) (Nat.le_of_ble_eq_true rfl) (fun x C M => bR_value C M V n a0 x1 x2 h)
/-! BarrierMarksModel.told(I)I -/
def fR_told_15 (V : zV) (n : Nat) (a0 : Nat) (x1 : Int32) (s0 : Option Nat) (s1 : Int32) : Option zR :=
    (zpI V s0 [6] 1 s1).bind fun V =>
    (zgI V (some a0) [6] 1).bind fun t1 =>
    if t1 ≤ 0 then (
    if x1 = 0 then (
    (zgI V (some a0) [6] 7).bind fun t5 =>
    zrI t5 V n) else (
    if x1 = (1 : Int32) then (
    (zgI V (some a0) [6] 19).bind fun t4 =>
    zrI t4 V n) else (
    if x1 = (2 : Int32) then (
    (zgI V (some a0) [6] 29).bind fun t3 =>
    zrI t3 V n) else (
    (z_obj V (some a0) [6]).bind fun o => zcI (fR_begun V n o.1 ) fun t2 V n =>
    zrI t2 V n)))) else (
    zrI (0 : Int32) V n)
set_option maxHeartbeats 4000000 in
set_option maxRecDepth 100000 in
theorem bR_told_15 {x : zX} {w : zR} (C : zC x prog_9_method_46_code "BarrierMarksModel" "told" 2 1 22 (some .int)) (M : zM x (zc w) (zs w)) : ∀ (V : zV) (n : Nat) (a0 : Nat) (x1 : Int32) (s0 : Option Nat) (s1 : Int32), fR_told_15 V n a0 x1 s0 s1 = some w → zZ x 2 0 0 w V n 15 [(0, va_rf (some a0)), (1, .int x1)] [.int s1, va_rf s0] := by
  intro V n a0 x1 s0 s1 h
  unfold fR_told_15 at h
  refine z_putI C pf_R_100 (fun h => absurd h (by decide)) dR_told_15 h (fun V h => ?_)
  refine z_aload_n C 0 dR_told_18 rfl rfl ?_
  refine z_getI C fl_R_100 dR_told_19 h (fun t1 h => ?_)
  refine z_if_le C 27 dR_told_22 (by decide) h (fun h => ?_) (fun h => ?_)
  · refine z_iload_n C 1 dR_told_27 rfl rfl ?_
    refine z_if_ne C 38 dR_told_28 (by decide) h (fun h => ?_) (fun h => ?_)
    · refine z_iload_n C 1 dR_told_38 rfl rfl ?_
      refine z_iconst (v := 1) C dR_told_39 (by decide) ?_
      refine z_icmp_ne C 50 dR_told_40 (by decide) h (fun h => ?_) (fun h => ?_)
      · refine z_iload_n C 1 dR_told_50 rfl rfl ?_
        refine z_iconst (v := 2) C dR_told_51 (by decide) ?_
        refine z_icmp_ne C 62 dR_told_52 (by decide) h (fun h => ?_) (fun h => ?_)
        · refine z_aload_n C 0 dR_told_62 rfl rfl ?_
          refine z_vPI (ci := 6) C M zRmP [] cv_R_130 rfl (by decide) (by decide) rfl rfl (Nat.zero_le _) dR_told_63 (fun b => fR_begun V n b ) h (fun b w1 e1 l D dA hl => mR_begun hl e1) (fun t2 V n h => ?_)
          exact z_iret C M (Nat.zero_le _) (Nat.zero_le _) dR_told_66 h
        · refine z_aload_n C 0 dR_told_55 rfl rfl ?_
          refine z_getI C fl_R_138 dR_told_56 h (fun t3 h => ?_)
          refine z_goto C 66 dR_told_59 (by decide) ?_
          exact z_iret C M (Nat.zero_le _) (Nat.zero_le _) dR_told_66 h
      · refine z_aload_n C 0 dR_told_43 rfl rfl ?_
        refine z_getI C fl_R_106 dR_told_44 h (fun t4 h => ?_)
        refine z_goto C 66 dR_told_47 (by decide) ?_
        exact z_iret C M (Nat.zero_le _) (Nat.zero_le _) dR_told_66 h
    · refine z_aload_n C 0 dR_told_31 rfl rfl ?_
      refine z_getI C fl_R_103 dR_told_32 h (fun t5 h => ?_)
      refine z_goto C 66 dR_told_35 (by decide) ?_
      exact z_iret C M (Nat.zero_le _) (Nat.zero_le _) dR_told_66 h
  · refine z_iconst (v := 0) C dR_told_25 (by decide) ?_
    exact z_iret C M (Nat.zero_le _) (Nat.zero_le _) dR_told_26 h
def fR_told_10 (V : zV) (n : Nat) (a0 : Nat) (x1 : Int32) (s0 : Option Nat) : Option zR :=
    fR_told_15 V n a0 x1 s0 (1 : Int32)
set_option maxHeartbeats 4000000 in
set_option maxRecDepth 100000 in
theorem bR_told_10 {x : zX} {w : zR} (C : zC x prog_9_method_46_code "BarrierMarksModel" "told" 2 1 22 (some .int)) (M : zM x (zc w) (zs w)) : ∀ (V : zV) (n : Nat) (a0 : Nat) (x1 : Int32) (s0 : Option Nat), fR_told_10 V n a0 x1 s0 = some w → zZ x 2 0 0 w V n 10 [(0, va_rf (some a0)), (1, .int x1)] [va_rf s0] := by
  intro V n a0 x1 s0 h
  unfold fR_told_10 at h
  refine z_iconst (v := 1) C dR_told_10 (by decide) ?_
  refine z_goto C 15 dR_told_11 (by decide) ?_
  exact bR_told_15 C M V n a0 x1 s0 (1 : Int32) h
def fR_told (V : zV) (n : Nat) (a0 : Nat) (x1 : Int32) : Option zR :=
    if x1 < 0 then (
    fR_told_10 V n a0 x1 (some a0)) else (
    if x1 ≤ (3 : Int32) then (
    fR_told_15 V n a0 x1 (some a0) (0 : Int32)) else (
    fR_told_10 V n a0 x1 (some a0)))
set_option maxHeartbeats 4000000 in
set_option maxRecDepth 100000 in
theorem bR_told {x : zX} {w : zR} (C : zC x prog_9_method_46_code "BarrierMarksModel" "told" 2 1 22 (some .int)) (M : zM x (zc w) (zs w)) : ∀ (V : zV) (n : Nat) (a0 : Nat) (x1 : Int32), fR_told V n a0 x1 = some w → zZ x 2 0 0 w V n 0 [(0, va_rf (some a0)), (1, .int x1)] [] := by
  intro V n a0 x1 h
  unfold fR_told at h
  refine z_aload_n C 0 dR_told_0 rfl rfl ?_
  refine z_iload_n C 1 dR_told_1 rfl rfl ?_
  refine z_if_lt C 10 dR_told_2 (by decide) h (fun h => ?_) (fun h => ?_)
  · exact bR_told_10 C M V n a0 x1 (some a0) h
  · refine z_iload_n C 1 dR_told_5 rfl rfl ?_
    refine z_iconst (v := 3) C dR_told_6 (by decide) ?_
    refine z_icmp_le C 14 dR_told_7 (by decide) h (fun h => ?_) (fun h => ?_)
    · refine z_iconst (v := 0) C dR_told_14 (by decide) ?_
      exact bR_told_15 C M V n a0 x1 (some a0) (0 : Int32) h
    · exact bR_told_10 C M V n a0 x1 (some a0) h
theorem mR_told {l : Launch} {D : va_G} {dA : Nat → ClassId} {V : zV} {n : Nat} (hl : l.stackTraces = false) {a0 : Nat} {x1 : Int32} {w : zR} (h : fR_told V n a0 x1 = some w) : z_Met l ⟨"BarrierMarksModel", "told", "(I)I"⟩ prog_9_method_46_code 2 (some .int) 1 22 (zc w) (zs w) [.ref a0, .int x1] D dA V n w := by exact z_ofZ hl (by decide) (Nat.le_of_ble_eq_true rfl) (fun x C M => bR_told C M V n a0 x1 h)
