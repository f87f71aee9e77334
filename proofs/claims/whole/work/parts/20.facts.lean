/-! FACTS about pool entries: words of the tables -/
theorem ol_K_3 : Cond.methodLink "BarrierMarks$AckRow" 3 Lib.objectInit ∈ zTs := by decide +kernel
theorem oi_ : Cond.instanceMethod Lib.objectInit ∈ zTs := by decide +kernel
theorem oc_ : Cond.code Lib.objectInit ⟨#[0xb1]⟩ 1 none ∈ zTs := by decide +kernel
theorem na_0 : Cond.arrayClass .int ∈ zTs := by decide +kernel
theorem fl_K_9 : ∀ ci ∈ [0], z_fld "BarrierMarks$AckRow" 9 ci 0 := by
  intro ci h
  simp only [List.mem_cons, List.not_mem_nil, or_false] at h
  subst h
  exact ⟨_, _, _, "BarrierMarks$AckRow", rfl, by decide, zi0, (zm 35 zq1 (by decide +kernel) rfl), Or.inl rfl⟩
theorem pf_K_9 : ∀ ci ∈ [0], z_fld "BarrierMarks$AckRow" 9 ci 0 ∧ z_wrt ci 0 true "BarrierMarks$AckRow" (.array .int) := by
  intro ci h
  refine ⟨fl_K_9 ci h, ?_⟩
  simp only [List.mem_cons, List.not_mem_nil, or_false] at h
  subst h
  exact ⟨_, _, _, zty0, rfl, rfl, fun _ => rfl, by decide +kernel, zt0, zn0⟩
theorem fl_K_15 : ∀ ci ∈ [0], z_fld "BarrierMarks$AckRow" 15 ci 1 := by
  intro ci h
  simp only [List.mem_cons, List.not_mem_nil, or_false] at h
  subst h
  exact ⟨_, _, _, "BarrierMarks$AckRow", rfl, by decide, zi0, (zm 36 zq1 (by decide +kernel) rfl), Or.inl rfl⟩
theorem pf_K_15 : ∀ ci ∈ [0], z_fld "BarrierMarks$AckRow" 15 ci 1 ∧ z_wrt ci 1 true "BarrierMarks$AckRow" (.array .int) := by
  intro ci h
  refine ⟨fl_K_15 ci h, ?_⟩
  simp only [List.mem_cons, List.not_mem_nil, or_false] at h
  subst h
  exact ⟨_, _, _, zty0, rfl, rfl, fun _ => rfl, by decide +kernel, zt0, zn0⟩
theorem ol_T_3 : Cond.methodLink "BarrierMarks$Task" 3 Lib.objectInit ∈ zTs := by decide +kernel
theorem nl_T_9 : Cond.classLink "BarrierMarks$Task" 9 "BarrierMarks$Channel" ∈ zTs := (zm 63 zq1 (by decide +kernel) rfl)
theorem fl_T_11 : ∀ ci ∈ [4], z_fld "BarrierMarks$Task" 11 ci 1 := by
  intro ci h
  simp only [List.mem_cons, List.not_mem_nil, or_false] at h
  subst h
  exact ⟨_, _, _, "BarrierMarks$Task", rfl, by decide, zi4, (zm 69 zq1 (by decide +kernel) rfl), Or.inl rfl⟩
theorem pf_T_11 : ∀ ci ∈ [4], z_fld "BarrierMarks$Task" 11 ci 1 ∧ z_wrt ci 1 true "BarrierMarks$Task" (.array (.object "BarrierMarks$Channel")) := by
  intro ci h
  refine ⟨fl_T_11 ci h, ?_⟩
  simp only [List.mem_cons, List.not_mem_nil, or_false] at h
  subst h
  exact ⟨_, _, _, zty4, rfl, rfl, fun _ => rfl, by decide +kernel, zt4, zn4⟩
theorem nl_T_17 : Cond.classLink "BarrierMarks$Task" 17 "BarrierMarks$Line" ∈ zTs := (zm 64 zq1 (by decide +kernel) rfl)
theorem fl_T_19 : ∀ ci ∈ [4], z_fld "BarrierMarks$Task" 19 ci 2 := by
  intro ci h
  simp only [List.mem_cons, List.not_mem_nil, or_false] at h
  subst h
  exact ⟨_, _, _, "BarrierMarks$Task", rfl, by decide, zi4, (zm 71 zq1 (by decide +kernel) rfl), Or.inl rfl⟩
theorem pf_T_19 : ∀ ci ∈ [4], z_fld "BarrierMarks$Task" 19 ci 2 ∧ z_wrt ci 2 true "BarrierMarks$Task" (.array (.object "BarrierMarks$Line")) := by
  intro ci h
  refine ⟨fl_T_19 ci h, ?_⟩
  simp only [List.mem_cons, List.not_mem_nil, or_false] at h
  subst h
  exact ⟨_, _, _, zty4, rfl, rfl, fun _ => rfl, by decide +kernel, zt4, zn4⟩
theorem fl_T_23 : ∀ ci ∈ [4], z_fld "BarrierMarks$Task" 23 ci 0 := by
  intro ci h
  simp only [List.mem_cons, List.not_mem_nil, or_false] at h
  subst h
  exact ⟨_, _, _, "BarrierMarks$Task", rfl, by decide, zi4, (zm 66 zq1 (by decide +kernel) rfl), Or.inl rfl⟩
theorem pf_T_23 : ∀ ci ∈ [4], z_fld "BarrierMarks$Task" 23 ci 0 ∧ z_wrt ci 0 true "BarrierMarks$Task" .int := by
  intro ci h
  refine ⟨fl_T_23 ci h, ?_⟩
  simp only [List.mem_cons, List.not_mem_nil, or_false] at h
  subst h
  exact ⟨_, _, _, zty4, rfl, rfl, fun _ => rfl, by decide +kernel, zt4, zn4⟩
theorem na_1 : Cond.arrayClass .long ∈ zTs := by decide +kernel
theorem fl_B_46 : ∀ ci ∈ [5], z_fld "BarrierMarks" 46 ci 4 := by
  intro ci h
  simp only [List.mem_cons, List.not_mem_nil, or_false] at h
  subst h
  exact ⟨_, _, _, "BarrierMarks", rfl, by decide, zi5, (zm 108 zq1 (by decide +kernel) rfl), Or.inl rfl⟩
theorem pf_B_46 : ∀ ci ∈ [5], z_fld "BarrierMarks" 46 ci 4 ∧ z_wrt ci 4 true "BarrierMarks" (.array .long) := by
  intro ci h
  refine ⟨fl_B_46 ci h, ?_⟩
  simp only [List.mem_cons, List.not_mem_nil, or_false] at h
  subst h
  exact ⟨_, _, _, zty5, rfl, rfl, fun _ => rfl, by decide +kernel, zt5, zn5⟩
theorem fl_B_50 : ∀ ci ∈ [5], z_fld "BarrierMarks" 50 ci 5 := by
  intro ci h
  simp only [List.mem_cons, List.not_mem_nil, or_false] at h
  subst h
  exact ⟨_, _, _, "BarrierMarks", rfl, by decide, zi5, (zm 109 zq1 (by decide +kernel) rfl), Or.inl rfl⟩
theorem pf_B_50 : ∀ ci ∈ [5], z_fld "BarrierMarks" 50 ci 5 ∧ z_wrt ci 5 true "BarrierMarks" (.array .int) := by
  intro ci h
  refine ⟨fl_B_50 ci h, ?_⟩
  simp only [List.mem_cons, List.not_mem_nil, or_false] at h
  subst h
  exact ⟨_, _, _, zty5, rfl, rfl, fun _ => rfl, by decide +kernel, zt5, zn5⟩
theorem fl_B_39 : ∀ ci ∈ [5], z_fld "BarrierMarks" 39 ci 0 := by
  intro ci h
  simp only [List.mem_cons, List.not_mem_nil, or_false] at h
  subst h
  exact ⟨_, _, _, "BarrierMarks", rfl, by decide, zi5, (zm 104 zq1 (by decide +kernel) rfl), Or.inl rfl⟩
theorem nl_B_37 : Cond.classLink "BarrierMarks" 37 "BarrierMarks$Task" ∈ zTs := (zm 56 zq1 (by decide +kernel) rfl)
theorem ni_4 : Cond.instantiable "BarrierMarks$Task" 9 ∈ zTs := (zm 58 zq1 (by decide +kernel) rfl)
theorem nz_4 : Cond.initialized "BarrierMarks$Task" ∈ zTs := (zm 4 zq1 (by decide +kernel) rfl)
theorem cn_B_43 : zCI "BarrierMarks" 43 ⟨"BarrierMarks$Task", "<init>", "(I)V"⟩ prog_7_method_1_code 2 1 := ⟨(zm 59 zq1 (by decide +kernel) rfl), (zm 60 zq1 (by decide +kernel) rfl), (zm 4 zq1 (by decide +kernel) rfl), (zm 61 zq1 (by decide +kernel) rfl), rfl, by decide, by decide, by decide +kernel⟩
theorem ae_3 : ∀ ci ∈ [4], ∃ q, zcl[ci]? = some q ∧ (q.1 = "BarrierMarks$Task" ∨ (q.1, "BarrierMarks$Task") ∈ zcast) := by
  intro ci h
  simp only [List.mem_cons, List.not_mem_nil, or_false] at h
  subst h
  exact ⟨_, rfl, Or.inl rfl⟩
theorem ol_B_3 : Cond.methodLink "BarrierMarks" 3 Lib.objectInit ∈ zTs := by decide +kernel
theorem nl_B_9 : Cond.classLink "BarrierMarks" 9 "BarrierMarks$Channel" ∈ zTs := (zm 25 zq1 (by decide +kernel) rfl)
theorem fl_B_11 : ∀ ci ∈ [5], z_fld "BarrierMarks" 11 ci 1 := by
  intro ci h
  simp only [List.mem_cons, List.not_mem_nil, or_false] at h
  subst h
  exact ⟨_, _, _, "BarrierMarks", rfl, by decide, zi5, (zm 105 zq1 (by decide +kernel) rfl), Or.inl rfl⟩
theorem pf_B_11 : ∀ ci ∈ [5], z_fld "BarrierMarks" 11 ci 1 ∧ z_wrt ci 1 true "BarrierMarks" (.array (.object "BarrierMarks$Channel")) := by
  intro ci h
  refine ⟨fl_B_11 ci h, ?_⟩
  simp only [List.mem_cons, List.not_mem_nil, or_false] at h
  subst h
  exact ⟨_, _, _, zty5, rfl, rfl, fun _ => rfl, by decide +kernel, zt5, zn5⟩
theorem nl_B_15 : Cond.classLink "BarrierMarks" 15 "BarrierMarks$Mark" ∈ zTs := (zm 27 zq1 (by decide +kernel) rfl)
theorem fl_B_17 : ∀ ci ∈ [5], z_fld "BarrierMarks" 17 ci 2 := by
  intro ci h
  simp only [List.mem_cons, List.not_mem_nil, or_false] at h
  subst h
  exact ⟨_, _, _, "BarrierMarks", rfl, by decide, zi5, (zm 106 zq1 (by decide +kernel) rfl), Or.inl rfl⟩
theorem pf_B_17 : ∀ ci ∈ [5], z_fld "BarrierMarks" 17 ci 2 ∧ z_wrt ci 2 true "BarrierMarks" (.array (.object "BarrierMarks$Mark")) := by
  intro ci h
  refine ⟨fl_B_17 ci h, ?_⟩
  simp only [List.mem_cons, List.not_mem_nil, or_false] at h
  subst h
  exact ⟨_, _, _, zty5, rfl, rfl, fun _ => rfl, by decide +kernel, zt5, zn5⟩
theorem nl_B_21 : Cond.classLink "BarrierMarks" 21 "BarrierMarks$AckRow" ∈ zTs := (zm 29 zq1 (by decide +kernel) rfl)
theorem ni_0 : Cond.instantiable "BarrierMarks$AckRow" 4 ∈ zTs := (zm 30 zq1 (by decide +kernel) rfl)
theorem nz_0 : Cond.initialized "BarrierMarks$AckRow" ∈ zTs := (zm 2 zq1 (by decide +kernel) rfl)
theorem cp_K : zCN ⟨"BarrierMarks$AckRow", "<init>", "()V"⟩ prog_2_method_1_code 1 0 := ⟨(zm 32 zq1 (by decide +kernel) rfl), (zm 2 zq1 (by decide +kernel) rfl), (zm 33 zq1 (by decide +kernel) rfl), rfl, by decide, by decide, by decide +kernel⟩
theorem fl_B_24 : ∀ ci ∈ [5], z_fld "BarrierMarks" 24 ci 3 := by
  intro ci h
  simp only [List.mem_cons, List.not_mem_nil, or_false] at h
  subst h
  exact ⟨_, _, _, "BarrierMarks", rfl, by decide, zi5, (zm 107 zq1 (by decide +kernel) rfl), Or.inl rfl⟩
theorem pf_B_24 : ∀ ci ∈ [5], z_fld "BarrierMarks" 24 ci 3 ∧ z_wrt ci 3 true "BarrierMarks" (.object "BarrierMarks$AckRow") := by
  intro ci h
  refine ⟨fl_B_24 ci h, ?_⟩
  simp only [List.mem_cons, List.not_mem_nil, or_false] at h
  subst h
  exact ⟨_, _, _, zty5, rfl, rfl, fun _ => rfl, by decide +kernel, zt5, zn5⟩
theorem ml_B_28 : Cond.methodLink "BarrierMarks" 28 Lib.Math.min.name ∈ zTs := by decide +kernel
theorem ms_min : Cond.static Lib.Math.min.name ∈ zTs := by decide +kernel
theorem mi_ : Cond.initialized "java/lang/Math" ∈ zTs := by decide +kernel
theorem mc_min : Cond.code Lib.Math.min.name Lib.Math.min.code 2 (some .int) ∈ zTs := by decide +kernel
theorem ml_B_34 : Cond.methodLink "BarrierMarks" 34 Lib.Math.max.name ∈ zTs := by decide +kernel
theorem ms_max : Cond.static Lib.Math.max.name ∈ zTs := by decide +kernel
theorem mc_max : Cond.code Lib.Math.max.name Lib.Math.max.code 2 (some .int) ∈ zTs := by decide +kernel
theorem pf_B_39 : ∀ ci ∈ [5], z_fld "BarrierMarks" 39 ci 0 ∧ z_wrt ci 0 true "BarrierMarks" (.array (.object "BarrierMarks$Task")) := by
  intro ci h
  refine ⟨fl_B_39 ci h, ?_⟩
  simp only [List.mem_cons, List.not_mem_nil, or_false] at h
  subst h
  exact ⟨_, _, _, zty5, rfl, rfl, fun _ => rfl, by decide +kernel, zt5, zn5⟩
theorem tw_B_244 : ∀ w ∈ vx_atS "BarrierMarks" 244 "java/lang/IndexOutOfBoundsException" znames, w ∈ zTs ∨ w = .castable "java/lang/IndexOutOfBoundsException" "java/lang/IndexOutOfBoundsException" ∨ w ∈ zdecl.map Cond.declares := by decide +kernel
theorem tx_B_244_240 : ∀ w ∈ Cond.classLink "BarrierMarks" 240 "java/lang/IndexOutOfBoundsException" :: Cond.initialized "java/lang/IndexOutOfBoundsException" :: vx_atS "BarrierMarks" 244 "java/lang/IndexOutOfBoundsException" znames, vx_ot w = true := by decide +kernel
theorem th_B_260_240 : zThr "BarrierMarks" 240 260 244 "java/lang/IndexOutOfBoundsException" "no such task" := ⟨by decide +kernel, (zm 153 zq1 (by decide +kernel) rfl), (zm 9 zq1 (by decide +kernel) rfl), by decide +kernel, by decide +kernel, tw_B_244, tx_B_244_240⟩
theorem ol_Ch_3 : Cond.methodLink "BarrierMarks$Channel" 3 Lib.objectInit ∈ zTs := by decide +kernel
theorem fl_Ch_9 : ∀ ci ∈ [1, 2], z_fld "BarrierMarks$Channel" 9 ci 2 := by
  intro ci h
  simp only [List.mem_cons, List.not_mem_nil, or_false] at h
  rcases h with rfl | rfl
  · exact ⟨_, _, _, "BarrierMarks$Channel", rfl, by decide, zi1, (zm 23 zq2 (by decide +kernel) rfl), Or.inl rfl⟩
  · exact ⟨_, _, _, "BarrierMarks$Channel", rfl, by decide, zi2, (zm 23 zq2 (by decide +kernel) rfl), Or.inl rfl⟩
theorem pf_Ch_9 : ∀ ci ∈ [1, 2], z_fld "BarrierMarks$Channel" 9 ci 2 ∧ z_wrt ci 2 false "BarrierMarks$Channel" .int := by
  intro ci h
  refine ⟨fl_Ch_9 ci h, ?_⟩
  simp only [List.mem_cons, List.not_mem_nil, or_false] at h
  rcases h with rfl | rfl
  · exact ⟨_, _, _, zty1, rfl, rfl, fun h => absurd h (by decide), by decide +kernel, zt1, zn1⟩
  · exact ⟨_, _, _, zty2, rfl, rfl, fun h => absurd h (by decide), by decide +kernel, zt2, zn2⟩
theorem fl_Ch_15 : ∀ ci ∈ [1, 2], z_fld "BarrierMarks$Channel" 15 ci 0 := by
  intro ci h
  simp only [List.mem_cons, List.not_mem_nil, or_false] at h
  rcases h with rfl | rfl
  · exact ⟨_, _, _, "BarrierMarks$Channel", rfl, by decide, zi1, (zm 19 zq2 (by decide +kernel) rfl), Or.inl rfl⟩
  · exact ⟨_, _, _, "BarrierMarks$Channel", rfl, by decide, zi2, (zm 19 zq2 (by decide +kernel) rfl), Or.inl rfl⟩
theorem pf_Ch_15 : ∀ ci ∈ [1, 2], z_fld "BarrierMarks$Channel" 15 ci 0 ∧ z_wrt ci 0 true "BarrierMarks$Channel" .int := by
  intro ci h
  refine ⟨fl_Ch_15 ci h, ?_⟩
  simp only [List.mem_cons, List.not_mem_nil, or_false] at h
  rcases h with rfl | rfl
  · exact ⟨_, _, _, zty1, rfl, rfl, fun _ => rfl, by decide +kernel, zt1, zn1⟩
  · exact ⟨_, _, _, zty2, rfl, rfl, fun _ => rfl, by decide +kernel, zt2, zn2⟩
theorem fl_Ch_18 : ∀ ci ∈ [1, 2], z_fld "BarrierMarks$Channel" 18 ci 1 := by
  intro ci h
  simp only [List.mem_cons, List.not_mem_nil, or_false] at h
  rcases h with rfl | rfl
  · exact ⟨_, _, _, "BarrierMarks$Channel", rfl, by decide, zi1, (zm 21 zq2 (by decide +kernel) rfl), Or.inl rfl⟩
  · exact ⟨_, _, _, "BarrierMarks$Channel", rfl, by decide, zi2, (zm 21 zq2 (by decide +kernel) rfl), Or.inl rfl⟩
theorem pf_Ch_18 : ∀ ci ∈ [1, 2], z_fld "BarrierMarks$Channel" 18 ci 1 ∧ z_wrt ci 1 true "BarrierMarks$Channel" .int := by
  intro ci h
  refine ⟨fl_Ch_18 ci h, ?_⟩
  simp only [List.mem_cons, List.not_mem_nil, or_false] at h
  rcases h with rfl | rfl
  · exact ⟨_, _, _, zty1, rfl, rfl, fun _ => rfl, by decide +kernel, zt1, zn1⟩
  · exact ⟨_, _, _, zty2, rfl, rfl, fun _ => rfl, by decide +kernel, zt2, zn2⟩
theorem cn_S_3 : zCI "BarrierMarks$Source" 3 ⟨"BarrierMarks$Channel", "<init>", "(II)V"⟩ prog_3_method_1_code 3 2 := ⟨(zm 2 zq2 (by decide +kernel) rfl), (zm 3 zq2 (by decide +kernel) rfl), (zm 11 zq1 (by decide +kernel) rfl), (zm 4 zq2 (by decide +kernel) rfl), rfl, by decide, by decide, by decide +kernel⟩
theorem fl_S_9 : ∀ ci ∈ [1], z_fld "BarrierMarks$Source" 9 ci 4 := by
  intro ci h
  simp only [List.mem_cons, List.not_mem_nil, or_false] at h
  subst h
  exact ⟨_, _, _, "BarrierMarks$Source", rfl, by decide, zi1, (zm 6 zq2 (by decide +kernel) rfl), Or.inl rfl⟩
theorem pf_S_9 : ∀ ci ∈ [1], z_fld "BarrierMarks$Source" 9 ci 4 ∧ z_wrt ci 4 true "BarrierMarks$Source" (.array .long) := by
  intro ci h
  refine ⟨fl_S_9 ci h, ?_⟩
  simp only [List.mem_cons, List.not_mem_nil, or_false] at h
  subst h
  exact ⟨_, _, _, zty1, rfl, rfl, fun _ => rfl, by decide +kernel, zt1, zn1⟩
theorem fl_S_15 : ∀ ci ∈ [1], z_fld "BarrierMarks$Source" 15 ci 5 := by
  intro ci h
  simp only [List.mem_cons, List.not_mem_nil, or_false] at h
  subst h
  exact ⟨_, _, _, "BarrierMarks$Source", rfl, by decide, zi1, (zm 7 zq2 (by decide +kernel) rfl), Or.inl rfl⟩
theorem pf_S_15 : ∀ ci ∈ [1], z_fld "BarrierMarks$Source" 15 ci 5 ∧ z_wrt ci 5 true "BarrierMarks$Source" (.array .int) := by
  intro ci h
  refine ⟨fl_S_15 ci h, ?_⟩
  simp only [List.mem_cons, List.not_mem_nil, or_false] at h
  subst h
  exact ⟨_, _, _, zty1, rfl, rfl, fun _ => rfl, by decide +kernel, zt1, zn1⟩
theorem fl_S_19 : ∀ ci ∈ [1], z_fld "BarrierMarks$Source" 19 ci 6 := by
  intro ci h
  simp only [List.mem_cons, List.not_mem_nil, or_false] at h
  subst h
  exact ⟨_, _, _, "BarrierMarks$Source", rfl, by decide, zi1, (zm 9 zq2 (by decide +kernel) rfl), Or.inl rfl⟩
theorem pf_S_19 : ∀ ci ∈ [1], z_fld "BarrierMarks$Source" 19 ci 6 ∧ z_wrt ci 6 true "BarrierMarks$Source" (.array .long) := by
  intro ci h
  refine ⟨fl_S_19 ci h, ?_⟩
  simp only [List.mem_cons, List.not_mem_nil, or_false] at h
  subst h
  exact ⟨_, _, _, zty1, rfl, rfl, fun _ => rfl, by decide +kernel, zt1, zn1⟩
theorem fl_S_22 : ∀ ci ∈ [1], z_fld "BarrierMarks$Source" 22 ci 7 := by
  intro ci h
  simp only [List.mem_cons, List.not_mem_nil, or_false] at h
  subst h
  exact ⟨_, _, _, "BarrierMarks$Source", rfl, by decide, zi1, (zm 11 zq2 (by decide +kernel) rfl), Or.inl rfl⟩
theorem pf_S_22 : ∀ ci ∈ [1], z_fld "BarrierMarks$Source" 22 ci 7 ∧ z_wrt ci 7 true "BarrierMarks$Source" (.array .int) := by
  intro ci h
  refine ⟨fl_S_22 ci h, ?_⟩
  simp only [List.mem_cons, List.not_mem_nil, or_false] at h
  subst h
  exact ⟨_, _, _, zty1, rfl, rfl, fun _ => rfl, by decide +kernel, zt1, zn1⟩
theorem fl_T_27 : ∀ ci ∈ [4], z_fld "BarrierMarks$Task" 27 ci 3 := by
  intro ci h
  simp only [List.mem_cons, List.not_mem_nil, or_false] at h
  subst h
  exact ⟨_, _, _, "BarrierMarks$Task", rfl, by decide, zi4, (zm 72 zq1 (by decide +kernel) rfl), Or.inl rfl⟩
theorem ae_4 : ∀ ci ∈ [1, 2], ∃ q, zcl[ci]? = some q ∧ (q.1 = "BarrierMarks$Channel" ∨ (q.1, "BarrierMarks$Channel") ∈ zcast) := by
  intro ci h
  simp only [List.mem_cons, List.not_mem_nil, or_false] at h
  rcases h with rfl | rfl
  · exact ⟨_, rfl, Or.inr (by decide +kernel)⟩
  · exact ⟨_, rfl, Or.inr (by decide +kernel)⟩
theorem pf_T_27 : ∀ ci ∈ [4], z_fld "BarrierMarks$Task" 27 ci 3 ∧ z_wrt ci 3 false "BarrierMarks$Task" .int := by
  intro ci h
  refine ⟨fl_T_27 ci h, ?_⟩
  simp only [List.mem_cons, List.not_mem_nil, or_false] at h
  subst h
  exact ⟨_, _, _, zty4, rfl, rfl, fun h => absurd h (by decide), by decide +kernel, zt4, zn4⟩
theorem fl_B_62 : ∀ ci ∈ [5], z_fld "BarrierMarks" 62 ci 6 := by
  intro ci h
  simp only [List.mem_cons, List.not_mem_nil, or_false] at h
  subst h
  exact ⟨_, _, _, "BarrierMarks", rfl, by decide, zi5, (zm 110 zq1 (by decide +kernel) rfl), Or.inl rfl⟩
theorem pf_B_62 : ∀ ci ∈ [5], z_fld "BarrierMarks" 62 ci 6 ∧ z_wrt ci 6 false "BarrierMarks" .int := by
  intro ci h
  refine ⟨fl_B_62 ci h, ?_⟩
  simp only [List.mem_cons, List.not_mem_nil, or_false] at h
  subst h
  exact ⟨_, _, _, zty5, rfl, rfl, fun h => absurd h (by decide), by decide +kernel, zt5, zn5⟩
theorem cv_B_275 : zCV "BarrierMarks" 275 "BarrierMarks$Task" ⟨"BarrierMarks$Task", "addInto", "(LBarrierMarks$Channel;)V"⟩ prog_7_method_2_code 2 none 1 := ⟨⟨(zm 61 zq2 (by decide +kernel) rfl), (zm 62 zq2 (by decide +kernel) rfl), (zm 63 zq2 (by decide +kernel) rfl), (zm 4 zq1 (by decide +kernel) rfl), (zm 64 zq2 (by decide +kernel) rfl)⟩, rfl, by decide, by decide, by decide +kernel⟩
theorem fl_B_198 : ∀ ci ∈ [1, 2], z_fld "BarrierMarks" 198 ci 0 := by
  intro ci h
  simp only [List.mem_cons, List.not_mem_nil, or_false] at h
  rcases h with rfl | rfl
  · exact ⟨_, _, _, "BarrierMarks$Channel", rfl, by decide, zi1, (zm 20 zq2 (by decide +kernel) rfl), Or.inl rfl⟩
  · exact ⟨_, _, _, "BarrierMarks$Channel", rfl, by decide, zi2, (zm 20 zq2 (by decide +kernel) rfl), Or.inl rfl⟩
theorem fl_B_205 : ∀ ci ∈ [1, 2], z_fld "BarrierMarks" 205 ci 1 := by
  intro ci h
  simp only [List.mem_cons, List.not_mem_nil, or_false] at h
  rcases h with rfl | rfl
  · exact ⟨_, _, _, "BarrierMarks$Channel", rfl, by decide, zi1, (zm 22 zq2 (by decide +kernel) rfl), Or.inl rfl⟩
  · exact ⟨_, _, _, "BarrierMarks$Channel", rfl, by decide, zi2, (zm 22 zq2 (by decide +kernel) rfl), Or.inl rfl⟩
theorem cn_L_3 : zCI "BarrierMarks$Line" 3 ⟨"BarrierMarks$Channel", "<init>", "(II)V"⟩ prog_3_method_1_code 3 2 := ⟨(zm 90 zq2 (by decide +kernel) rfl), (zm 3 zq2 (by decide +kernel) rfl), (zm 11 zq1 (by decide +kernel) rfl), (zm 4 zq2 (by decide +kernel) rfl), rfl, by decide, by decide, by decide +kernel⟩
theorem fl_L_9 : ∀ ci ∈ [2], z_fld "BarrierMarks$Line" 9 ci 4 := by
  intro ci h
  simp only [List.mem_cons, List.not_mem_nil, or_false] at h
  subst h
  exact ⟨_, _, _, "BarrierMarks$Line", rfl, by decide, zi2, (zm 91 zq2 (by decide +kernel) rfl), Or.inl rfl⟩
theorem pf_L_9 : ∀ ci ∈ [2], z_fld "BarrierMarks$Line" 9 ci 4 ∧ z_wrt ci 4 true "BarrierMarks$Line" (.array .int) := by
  intro ci h
  refine ⟨fl_L_9 ci h, ?_⟩
  simp only [List.mem_cons, List.not_mem_nil, or_false] at h
  subst h
  exact ⟨_, _, _, zty2, rfl, rfl, fun _ => rfl, by decide +kernel, zt2, zn2⟩
theorem fl_L_15 : ∀ ci ∈ [2], z_fld "BarrierMarks$Line" 15 ci 5 := by
  intro ci h
  simp only [List.mem_cons, List.not_mem_nil, or_false] at h
  subst h
  exact ⟨_, _, _, "BarrierMarks$Line", rfl, by decide, zi2, (zm 93 zq2 (by decide +kernel) rfl), Or.inl rfl⟩
theorem pf_L_15 : ∀ ci ∈ [2], z_fld "BarrierMarks$Line" 15 ci 5 ∧ z_wrt ci 5 true "BarrierMarks$Line" (.array .long) := by
  intro ci h
  refine ⟨fl_L_15 ci h, ?_⟩
  simp only [List.mem_cons, List.not_mem_nil, or_false] at h
  subst h
  exact ⟨_, _, _, zty2, rfl, rfl, fun _ => rfl, by decide +kernel, zt2, zn2⟩
theorem fl_T_30 : ∀ ci ∈ [4], z_fld "BarrierMarks$Task" 30 ci 4 := by
  intro ci h
  simp only [List.mem_cons, List.not_mem_nil, or_false] at h
  subst h
  exact ⟨_, _, _, "BarrierMarks$Task", rfl, by decide, zi4, (zm 74 zq1 (by decide +kernel) rfl), Or.inl rfl⟩
theorem ae_5 : ∀ ci ∈ [2], ∃ q, zcl[ci]? = some q ∧ (q.1 = "BarrierMarks$Line" ∨ (q.1, "BarrierMarks$Line") ∈ zcast) := by
  intro ci h
  simp only [List.mem_cons, List.not_mem_nil, or_false] at h
  subst h
  exact ⟨_, rfl, Or.inl rfl⟩
theorem pf_T_30 : ∀ ci ∈ [4], z_fld "BarrierMarks$Task" 30 ci 4 ∧ z_wrt ci 4 false "BarrierMarks$Task" .int := by
  intro ci h
  refine ⟨fl_T_30 ci h, ?_⟩
  simp only [List.mem_cons, List.not_mem_nil, or_false] at h
  subst h
  exact ⟨_, _, _, zty4, rfl, rfl, fun h => absurd h (by decide), by decide +kernel, zt4, zn4⟩
theorem fl_B_58 : ∀ ci ∈ [5], z_fld "BarrierMarks" 58 ci 9 := by
  intro ci h
  simp only [List.mem_cons, List.not_mem_nil, or_false] at h
  subst h
  exact ⟨_, _, _, "BarrierMarks", rfl, by decide, zi5, (zm 113 zq1 (by decide +kernel) rfl), Or.inl rfl⟩
theorem tw_B_70 : ∀ w ∈ vx_atS "BarrierMarks" 70 "java/lang/IllegalStateException" znames, w ∈ zTs ∨ w = .castable "java/lang/IllegalStateException" "java/lang/IllegalStateException" ∨ w ∈ zdecl.map Cond.declares := by decide +kernel
theorem tx_B_70_66 : ∀ w ∈ Cond.classLink "BarrierMarks" 66 "java/lang/IllegalStateException" :: Cond.initialized "java/lang/IllegalStateException" :: vx_atS "BarrierMarks" 70 "java/lang/IllegalStateException" znames, vx_ot w = true := by decide +kernel
theorem th_B_68_66 : zThr "BarrierMarks" 66 68 70 "java/lang/IllegalStateException" "no more channels can be made" := ⟨by decide +kernel, (zm 221 zq1 (by decide +kernel) rfl), (zm 10 zq1 (by decide +kernel) rfl), by decide +kernel, by decide +kernel, tw_B_70, tx_B_70_66⟩
theorem fl_B_80 : ∀ ci ∈ [4], z_fld "BarrierMarks" 80 ci 3 := by
  intro ci h
  simp only [List.mem_cons, List.not_mem_nil, or_false] at h
  subst h
  exact ⟨_, _, _, "BarrierMarks$Task", rfl, by decide, zi4, (zm 73 zq1 (by decide +kernel) rfl), Or.inl rfl⟩
theorem tw_B_91 : ∀ w ∈ vx_atS "BarrierMarks" 91 "java/lang/IllegalArgumentException" znames, w ∈ zTs ∨ w = .castable "java/lang/IllegalArgumentException" "java/lang/IllegalArgumentException" ∨ w ∈ zdecl.map Cond.declares := by decide +kernel
theorem tx_B_91_87 : ∀ w ∈ Cond.classLink "BarrierMarks" 87 "java/lang/IllegalArgumentException" :: Cond.initialized "java/lang/IllegalArgumentException" :: vx_atS "BarrierMarks" 91 "java/lang/IllegalArgumentException" znames, vx_ot w = true := by decide +kernel
theorem th_B_89_87 : zThr "BarrierMarks" 87 89 91 "java/lang/IllegalArgumentException" "a ring, or a task without a channel into it" := ⟨by decide +kernel, (zm 69 zq2 (by decide +kernel) rfl), (zm 13 zq1 (by decide +kernel) rfl), by decide +kernel, by decide +kernel, tw_B_91, tx_B_91_87⟩
theorem cv_B_83 : zCV "BarrierMarks" 83 "BarrierMarks" ⟨"BarrierMarks", "leadsOnTo", "(II)Z"⟩ prog_1_method_34_code 7 (some .boolean) 2 := ⟨⟨(zm 65 zq2 (by decide +kernel) rfl), (zm 67 zq2 (by decide +kernel) rfl), (zmp (by decide +kernel) rfl), (zm 1 zq1 (by decide +kernel) rfl), (zm 68 zq2 (by decide +kernel) rfl)⟩, rfl, by decide, by decide, by decide +kernel⟩
theorem nl_B_92 : Cond.classLink "BarrierMarks" 92 "BarrierMarks$Line" ∈ zTs := (zm 85 zq2 (by decide +kernel) rfl)
theorem ni_2 : Cond.instantiable "BarrierMarks$Line" 7 ∈ zTs := (zm 86 zq2 (by decide +kernel) rfl)
theorem nz_2 : Cond.initialized "BarrierMarks$Line" ∈ zTs := (zm 14 zq1 (by decide +kernel) rfl)
theorem cn_B_94 : zCI "BarrierMarks" 94 ⟨"BarrierMarks$Line", "<init>", "(II)V"⟩ prog_4_method_1_code 3 2 := ⟨(zm 87 zq2 (by decide +kernel) rfl), (zm 88 zq2 (by decide +kernel) rfl), (zm 14 zq1 (by decide +kernel) rfl), (zm 89 zq2 (by decide +kernel) rfl), rfl, by decide, by decide, by decide +kernel⟩
theorem cv_B_97 : zCV "BarrierMarks" 97 "BarrierMarks$Task" ⟨"BarrierMarks$Task", "addOut", "(LBarrierMarks$Line;)V"⟩ prog_7_method_3_code 2 none 1 := ⟨⟨(zm 109 zq2 (by decide +kernel) rfl), (zm 110 zq2 (by decide +kernel) rfl), (zm 111 zq2 (by decide +kernel) rfl), (zm 4 zq1 (by decide +kernel) rfl), (zm 112 zq2 (by decide +kernel) rfl)⟩, rfl, by decide, by decide, by decide +kernel⟩
theorem cv_B_76 : zCV "BarrierMarks" 76 "BarrierMarks" ⟨"BarrierMarks", "addChannel", "(LBarrierMarks$Channel;LBarrierMarks$Task;)I"⟩ prog_1_method_33_code 4 (some .int) 2 := ⟨⟨(zm 57 zq2 (by decide +kernel) rfl), (zm 59 zq2 (by decide +kernel) rfl), (zmp (by decide +kernel) rfl), (zm 1 zq1 (by decide +kernel) rfl), (zm 60 zq2 (by decide +kernel) rfl)⟩, rfl, by decide, by decide, by decide +kernel⟩
theorem nl_B_73 : Cond.classLink "BarrierMarks" 73 "BarrierMarks$Source" ∈ zTs := (zm 237 zq1 (by decide +kernel) rfl)
theorem ni_1 : Cond.instantiable "BarrierMarks$Source" 13 ∈ zTs := (zm 238 zq1 (by decide +kernel) rfl)
theorem nz_1 : Cond.initialized "BarrierMarks$Source" ∈ zTs := (zm 12 zq1 (by decide +kernel) rfl)
theorem cn_B_75 : zCI "BarrierMarks" 75 ⟨"BarrierMarks$Source", "<init>", "(I)V"⟩ prog_6_method_1_code 2 1 := ⟨(zm 239 zq1 (by decide +kernel) rfl), (zm 0 zq2 (by decide +kernel) rfl), (zm 12 zq1 (by decide +kernel) rfl), (zm 1 zq2 (by decide +kernel) rfl), rfl, by decide, by decide, by decide +kernel⟩
theorem cv_B_54 : zCV "BarrierMarks" 54 "BarrierMarks" ⟨"BarrierMarks", "taskAt", "(I)LBarrierMarks$Task;"⟩ prog_1_method_25_code 2 (some (.object "BarrierMarks$Task")) 1 := ⟨⟨(zm 149 zq1 (by decide +kernel) rfl), (zm 151 zq1 (by decide +kernel) rfl), (zmp (by decide +kernel) rfl), (zm 1 zq1 (by decide +kernel) rfl), (zm 152 zq1 (by decide +kernel) rfl)⟩, rfl, by decide, by decide, by decide +kernel⟩
theorem th_B_262_240 : zThr "BarrierMarks" 240 262 244 "java/lang/IndexOutOfBoundsException" "no such channel" := ⟨by decide +kernel, (zm 153 zq1 (by decide +kernel) rfl), (zm 9 zq1 (by decide +kernel) rfl), by decide +kernel, by decide +kernel, tw_B_244, tx_B_244_240⟩
theorem cv_B_233 : zCV "BarrierMarks" 233 "BarrierMarks" ⟨"BarrierMarks", "channelAt", "(I)LBarrierMarks$Channel;"⟩ prog_1_method_26_code 2 (some (.object "BarrierMarks$Channel")) 1 := ⟨⟨(zm 124 zq2 (by decide +kernel) rfl), (zm 126 zq2 (by decide +kernel) rfl), (zmp (by decide +kernel) rfl), (zm 1 zq1 (by decide +kernel) rfl), (zm 127 zq2 (by decide +kernel) rfl)⟩, rfl, by decide, by decide, by decide +kernel⟩
theorem io_1 : ∀ cj ∈ [1, 2], ∃ q, zcl[cj]? = some q ∧ ((cj = 1 ∧ (q.1, "BarrierMarks$Source") ∈ zcast) ∨ (cj ≠ 1 ∧ (q.1, "BarrierMarks$Source") ∈ znc)) := by
  intro cj h
  simp only [List.mem_cons, List.not_mem_nil, or_false] at h
  rcases h with rfl | rfl
  · exact ⟨_, rfl, Or.inl ⟨rfl, by decide +kernel⟩⟩
  · exact ⟨_, rfl, Or.inr ⟨by decide, by decide +kernel⟩⟩
theorem th_B_242_66 : zThr "BarrierMarks" 66 242 70 "java/lang/IllegalStateException" "the channel is no source" := ⟨by decide +kernel, (zm 221 zq1 (by decide +kernel) rfl), (zm 10 zq1 (by decide +kernel) rfl), by decide +kernel, by decide +kernel, tw_B_70, tx_B_70_66⟩
theorem ck_1 : ∀ cj ∈ [1], ∃ q, zcl[cj]? = some q ∧ (q.1, "BarrierMarks$Source") ∈ zcast := by
  intro cj h
  simp only [List.mem_cons, List.not_mem_nil, or_false] at h
  subst h
  exact ⟨_, rfl, by decide +kernel⟩
theorem fl_S_25 : ∀ ci ∈ [1], z_fld "BarrierMarks$Source" 25 ci 9 := by
  intro ci h
  simp only [List.mem_cons, List.not_mem_nil, or_false] at h
  subst h
  exact ⟨_, _, _, "BarrierMarks$Source", rfl, by decide, zi1, (zm 13 zq2 (by decide +kernel) rfl), Or.inl rfl⟩
theorem pf_S_25 : ∀ ci ∈ [1], z_fld "BarrierMarks$Source" 25 ci 9 ∧ z_wrt ci 9 false "BarrierMarks$Source" .int := by
  intro ci h
  refine ⟨fl_S_25 ci h, ?_⟩
  simp only [List.mem_cons, List.not_mem_nil, or_false] at h
  subst h
  exact ⟨_, _, _, zty1, rfl, rfl, fun h => absurd h (by decide), by decide +kernel, zt1, zn1⟩
theorem fl_S_29 : ∀ ci ∈ [1], z_fld "BarrierMarks$Source" 29 ci 10 := by
  intro ci h
  simp only [List.mem_cons, List.not_mem_nil, or_false] at h
  subst h
  exact ⟨_, _, _, "BarrierMarks$Source", rfl, by decide, zi1, (zm 15 zq2 (by decide +kernel) rfl), Or.inl rfl⟩
theorem pf_S_29 : ∀ ci ∈ [1], z_fld "BarrierMarks$Source" 29 ci 10 ∧ z_wrt ci 10 false "BarrierMarks$Source" .long := by
  intro ci h
  refine ⟨fl_S_29 ci h, ?_⟩
  simp only [List.mem_cons, List.not_mem_nil, or_false] at h
  subst h
  exact ⟨_, _, _, zty1, rfl, rfl, fun h => absurd h (by decide), by decide +kernel, zt1, zn1⟩
theorem cv_B_101 : zCV "BarrierMarks" 101 "BarrierMarks" ⟨"BarrierMarks", "sourceAt", "(I)LBarrierMarks$Source;"⟩ prog_1_method_27_code 4 (some (.object "BarrierMarks$Source")) 1 := ⟨⟨(zm 120 zq2 (by decide +kernel) rfl), (zm 122 zq2 (by decide +kernel) rfl), (zmp (by decide +kernel) rfl), (zm 1 zq1 (by decide +kernel) rfl), (zm 123 zq2 (by decide +kernel) rfl)⟩, rfl, by decide, by decide, by decide +kernel⟩
theorem fl_B_105 : ∀ ci ∈ [1], z_fld "BarrierMarks" 105 ci 12 := by
  intro ci h
  simp only [List.mem_cons, List.not_mem_nil, or_false] at h
  subst h
  exact ⟨_, _, _, "BarrierMarks$Source", rfl, by decide, zi1, (zm 17 zq2 (by decide +kernel) rfl), Or.inl rfl⟩
theorem th_B_111_66 : zThr "BarrierMarks" 66 111 70 "java/lang/IllegalStateException" "the log has its end, or is full" := ⟨by decide +kernel, (zm 221 zq1 (by decide +kernel) rfl), (zm 10 zq1 (by decide +kernel) rfl), by decide +kernel, by decide +kernel, tw_B_70, tx_B_70_66⟩
theorem fl_B_108 : ∀ ci ∈ [1], z_fld "BarrierMarks" 108 ci 9 := by
  intro ci h
  simp only [List.mem_cons, List.not_mem_nil, or_false] at h
  subst h
  exact ⟨_, _, _, "BarrierMarks$Source", rfl, by decide, zi1, (zm 14 zq2 (by decide +kernel) rfl), Or.inl rfl⟩
theorem pf_B_58 : ∀ ci ∈ [5], z_fld "BarrierMarks" 58 ci 9 ∧ z_wrt ci 9 false "BarrierMarks" .boolean := by
  intro ci h
  refine ⟨fl_B_58 ci h, ?_⟩
  simp only [List.mem_cons, List.not_mem_nil, or_false] at h
  subst h
  exact ⟨_, _, _, zty5, rfl, rfl, fun h => absurd h (by decide), by decide +kernel, zt5, zn5⟩
theorem cv_B_113 : zCV "BarrierMarks" 113 "BarrierMarks$Source" ⟨"BarrierMarks$Source", "addRow", "(J)V"⟩ prog_6_method_2_code 3 none 1 := ⟨⟨(zm 131 zq2 (by decide +kernel) rfl), (zm 132 zq2 (by decide +kernel) rfl), (zm 133 zq2 (by decide +kernel) rfl), (zm 12 zq1 (by decide +kernel) rfl), (zm 134 zq2 (by decide +kernel) rfl)⟩, rfl, by decide, by decide, by decide +kernel⟩
theorem pf_B_105 : ∀ ci ∈ [1], z_fld "BarrierMarks" 105 ci 12 ∧ z_wrt ci 12 false "BarrierMarks" .boolean := by
  intro ci h
  refine ⟨fl_B_105 ci h, ?_⟩
  simp only [List.mem_cons, List.not_mem_nil, or_false] at h
  subst h
  exact ⟨_, _, _, zty1, rfl, rfl, fun h => absurd h (by decide), by decide +kernel, zt1, zn1⟩
theorem th_B_117_66 : zThr "BarrierMarks" 66 117 70 "java/lang/IllegalStateException" "the log has its end" := ⟨by decide +kernel, (zm 221 zq1 (by decide +kernel) rfl), (zm 10 zq1 (by decide +kernel) rfl), by decide +kernel, by decide +kernel, tw_B_70, tx_B_70_66⟩
theorem ol_M_3 : Cond.methodLink "BarrierMarks$Mark" 3 Lib.objectInit ∈ zTs := by decide +kernel
theorem fl_M_9 : ∀ ci ∈ [3], z_fld "BarrierMarks$Mark" 9 ci 8 := by
  intro ci h
  simp only [List.mem_cons, List.not_mem_nil, or_false] at h
  subst h
  exact ⟨_, _, _, "BarrierMarks$Mark", rfl, by decide, zi3, (zm 174 zq2 (by decide +kernel) rfl), Or.inl rfl⟩
theorem pf_M_9 : ∀ ci ∈ [3], z_fld "BarrierMarks$Mark" 9 ci 8 ∧ z_wrt ci 8 false "BarrierMarks$Mark" .int := by
  intro ci h
  refine ⟨fl_M_9 ci h, ?_⟩
  simp only [List.mem_cons, List.not_mem_nil, or_false] at h
  subst h
  exact ⟨_, _, _, zty3, rfl, rfl, fun h => absurd h (by decide), by decide +kernel, zt3, zn3⟩
theorem ml_M_15 : Cond.methodLink "BarrierMarks$Mark" 15 Lib.Math.max.name ∈ zTs := by decide +kernel
theorem fl_M_21 : ∀ ci ∈ [3], z_fld "BarrierMarks$Mark" 21 ci 0 := by
  intro ci h
  simp only [List.mem_cons, List.not_mem_nil, or_false] at h
  subst h
  exact ⟨_, _, _, "BarrierMarks$Mark", rfl, by decide, zi3, (zm 157 zq2 (by decide +kernel) rfl), Or.inl rfl⟩
theorem pf_M_21 : ∀ ci ∈ [3], z_fld "BarrierMarks$Mark" 21 ci 0 ∧ z_wrt ci 0 true "BarrierMarks$Mark" .int := by
  intro ci h
  refine ⟨fl_M_21 ci h, ?_⟩
  simp only [List.mem_cons, List.not_mem_nil, or_false] at h
  subst h
  exact ⟨_, _, _, zty3, rfl, rfl, fun _ => rfl, by decide +kernel, zt3, zn3⟩
theorem na_2 : Cond.arrayClass .boolean ∈ zTs := by decide +kernel
theorem fl_M_24 : ∀ ci ∈ [3], z_fld "BarrierMarks$Mark" 24 ci 1 := by
  intro ci h
  simp only [List.mem_cons, List.not_mem_nil, or_false] at h
  subst h
  exact ⟨_, _, _, "BarrierMarks$Mark", rfl, by decide, zi3, (zm 159 zq2 (by decide +kernel) rfl), Or.inl rfl⟩
theorem pf_M_24 : ∀ ci ∈ [3], z_fld "BarrierMarks$Mark" 24 ci 1 ∧ z_wrt ci 1 true "BarrierMarks$Mark" (.array .boolean) := by
  intro ci h
  refine ⟨fl_M_24 ci h, ?_⟩
  simp only [List.mem_cons, List.not_mem_nil, or_false] at h
  subst h
  exact ⟨_, _, _, zty3, rfl, rfl, fun _ => rfl, by decide +kernel, zt3, zn3⟩
theorem fl_M_28 : ∀ ci ∈ [3], z_fld "BarrierMarks$Mark" 28 ci 2 := by
  intro ci h
  simp only [List.mem_cons, List.not_mem_nil, or_false] at h
  subst h
  exact ⟨_, _, _, "BarrierMarks$Mark", rfl, by decide, zi3, (zm 161 zq2 (by decide +kernel) rfl), Or.inl rfl⟩
theorem pf_M_28 : ∀ ci ∈ [3], z_fld "BarrierMarks$Mark" 28 ci 2 ∧ z_wrt ci 2 true "BarrierMarks$Mark" (.array .boolean) := by
  intro ci h
  refine ⟨fl_M_28 ci h, ?_⟩
  simp only [List.mem_cons, List.not_mem_nil, or_false] at h
  subst h
  exact ⟨_, _, _, zty3, rfl, rfl, fun _ => rfl, by decide +kernel, zt3, zn3⟩
theorem fl_M_31 : ∀ ci ∈ [3], z_fld "BarrierMarks$Mark" 31 ci 3 := by
  intro ci h
  simp only [List.mem_cons, List.not_mem_nil, or_false] at h
  subst h
  exact ⟨_, _, _, "BarrierMarks$Mark", rfl, by decide, zi3, (zm 163 zq2 (by decide +kernel) rfl), Or.inl rfl⟩
theorem pf_M_31 : ∀ ci ∈ [3], z_fld "BarrierMarks$Mark" 31 ci 3 ∧ z_wrt ci 3 true "BarrierMarks$Mark" (.array .boolean) := by
  intro ci h
  refine ⟨fl_M_31 ci h, ?_⟩
  simp only [List.mem_cons, List.not_mem_nil, or_false] at h
  subst h
  exact ⟨_, _, _, zty3, rfl, rfl, fun _ => rfl, by decide +kernel, zt3, zn3⟩
theorem fl_M_34 : ∀ ci ∈ [3], z_fld "BarrierMarks$Mark" 34 ci 4 := by
  intro ci h
  simp only [List.mem_cons, List.not_mem_nil, or_false] at h
  subst h
  exact ⟨_, _, _, "BarrierMarks$Mark", rfl, by decide, zi3, (zm 165 zq2 (by decide +kernel) rfl), Or.inl rfl⟩
theorem pf_M_34 : ∀ ci ∈ [3], z_fld "BarrierMarks$Mark" 34 ci 4 ∧ z_wrt ci 4 true "BarrierMarks$Mark" (.array .long) := by
  intro ci h
  refine ⟨fl_M_34 ci h, ?_⟩
  simp only [List.mem_cons, List.not_mem_nil, or_false] at h
  subst h
  exact ⟨_, _, _, zty3, rfl, rfl, fun _ => rfl, by decide +kernel, zt3, zn3⟩
theorem fl_M_38 : ∀ ci ∈ [3], z_fld "BarrierMarks$Mark" 38 ci 5 := by
  intro ci h
  simp only [List.mem_cons, List.not_mem_nil, or_false] at h
  subst h
  exact ⟨_, _, _, "BarrierMarks$Mark", rfl, by decide, zi3, (zm 168 zq2 (by decide +kernel) rfl), Or.inl rfl⟩
theorem pf_M_38 : ∀ ci ∈ [3], z_fld "BarrierMarks$Mark" 38 ci 5 ∧ z_wrt ci 5 true "BarrierMarks$Mark" (.array .int) := by
  intro ci h
  refine ⟨fl_M_38 ci h, ?_⟩
  simp only [List.mem_cons, List.not_mem_nil, or_false] at h
  subst h
  exact ⟨_, _, _, zty3, rfl, rfl, fun _ => rfl, by decide +kernel, zt3, zn3⟩
theorem fl_M_42 : ∀ ci ∈ [3], z_fld "BarrierMarks$Mark" 42 ci 6 := by
  intro ci h
  simp only [List.mem_cons, List.not_mem_nil, or_false] at h
  subst h
  exact ⟨_, _, _, "BarrierMarks$Mark", rfl, by decide, zi3, (zm 171 zq2 (by decide +kernel) rfl), Or.inl rfl⟩
theorem pf_M_42 : ∀ ci ∈ [3], z_fld "BarrierMarks$Mark" 42 ci 6 ∧ z_wrt ci 6 true "BarrierMarks$Mark" (.array .boolean) := by
  intro ci h
  refine ⟨fl_M_42 ci h, ?_⟩
  simp only [List.mem_cons, List.not_mem_nil, or_false] at h
  subst h
  exact ⟨_, _, _, zty3, rfl, rfl, fun _ => rfl, by decide +kernel, zt3, zn3⟩
theorem fl_S_33 : ∀ ci ∈ [1], z_fld "BarrierMarks$Source" 33 ci 8 := by
  intro ci h
  simp only [List.mem_cons, List.not_mem_nil, or_false] at h
  subst h
  exact ⟨_, _, _, "BarrierMarks$Source", rfl, by decide, zi1, (zm 12 zq2 (by decide +kernel) rfl), Or.inl rfl⟩
theorem pf_S_33 : ∀ ci ∈ [1], z_fld "BarrierMarks$Source" 33 ci 8 ∧ z_wrt ci 8 false "BarrierMarks$Source" .int := by
  intro ci h
  refine ⟨fl_S_33 ci h, ?_⟩
  simp only [List.mem_cons, List.not_mem_nil, or_false] at h
  subst h
  exact ⟨_, _, _, zty1, rfl, rfl, fun h => absurd h (by decide), by decide +kernel, zt1, zn1⟩
theorem fl_M_45 : ∀ ci ∈ [4], z_fld "BarrierMarks$Mark" 45 ci 0 := by
  intro ci h
  simp only [List.mem_cons, List.not_mem_nil, or_false] at h
  subst h
  exact ⟨_, _, _, "BarrierMarks$Task", rfl, by decide, zi4, (zm 67 zq1 (by decide +kernel) rfl), Or.inl rfl⟩
theorem fl_M_48 : ∀ ci ∈ [4], z_fld "BarrierMarks$Mark" 48 ci 6 := by
  intro ci h
  simp only [List.mem_cons, List.not_mem_nil, or_false] at h
  subst h
  exact ⟨_, _, _, "BarrierMarks$Task", rfl, by decide, zi4, (zm 76 zq1 (by decide +kernel) rfl), Or.inl rfl⟩
theorem fl_M_52 : ∀ ci ∈ [4], z_fld "BarrierMarks$Mark" 52 ci 7 := by
  intro ci h
  simp only [List.mem_cons, List.not_mem_nil, or_false] at h
  subst h
  exact ⟨_, _, _, "BarrierMarks$Task", rfl, by decide, zi4, (zm 79 zq1 (by decide +kernel) rfl), Or.inl rfl⟩
theorem fl_M_54 : ∀ ci ∈ [4], z_fld "BarrierMarks$Mark" 54 ci 8 := by
  intro ci h
  simp only [List.mem_cons, List.not_mem_nil, or_false] at h
  subst h
  exact ⟨_, _, _, "BarrierMarks$Task", rfl, by decide, zi4, (zm 82 zq1 (by decide +kernel) rfl), Or.inl rfl⟩
theorem fl_K_18 : ∀ ci ∈ [0], z_fld "BarrierMarks$AckRow" 18 ci 3 := by
  intro ci h
  simp only [List.mem_cons, List.not_mem_nil, or_false] at h
  subst h
  exact ⟨_, _, _, "BarrierMarks$AckRow", rfl, by decide, zi0, (zm 38 zq1 (by decide +kernel) rfl), Or.inl rfl⟩
theorem pf_K_18 : ∀ ci ∈ [0], z_fld "BarrierMarks$AckRow" 18 ci 3 ∧ z_wrt ci 3 false "BarrierMarks$AckRow" .int := by
  intro ci h
  refine ⟨fl_K_18 ci h, ?_⟩
  simp only [List.mem_cons, List.not_mem_nil, or_false] at h
  subst h
  exact ⟨_, _, _, zty0, rfl, rfl, fun h => absurd h (by decide), by decide +kernel, zt0, zn0⟩
theorem fl_K_22 : ∀ ci ∈ [0], z_fld "BarrierMarks$AckRow" 22 ci 2 := by
  intro ci h
  simp only [List.mem_cons, List.not_mem_nil, or_false] at h
  subst h
  exact ⟨_, _, _, "BarrierMarks$AckRow", rfl, by decide, zi0, (zm 37 zq1 (by decide +kernel) rfl), Or.inl rfl⟩
theorem cv_B_300 : zCV "BarrierMarks" 300 "BarrierMarks$Mark" ⟨"BarrierMarks$Mark", "keepStateOf", "(LBarrierMarks$Task;)V"⟩ prog_5_method_2_code 3 none 1 := ⟨⟨(zm 209 zq2 (by decide +kernel) rfl), (zm 210 zq2 (by decide +kernel) rfl), (zm 211 zq2 (by decide +kernel) rfl), (zm 15 zq1 (by decide +kernel) rfl), (zm 212 zq2 (by decide +kernel) rfl)⟩, rfl, by decide, by decide, by decide +kernel⟩
theorem fl_B_294 : ∀ ci ∈ [3], z_fld "BarrierMarks" 294 ci 0 := by
  intro ci h
  simp only [List.mem_cons, List.not_mem_nil, or_false] at h
  subst h
  exact ⟨_, _, _, "BarrierMarks$Mark", rfl, by decide, zi3, (zm 158 zq2 (by decide +kernel) rfl), Or.inl rfl⟩
theorem fl_B_304 : ∀ ci ∈ [4], z_fld "BarrierMarks" 304 ci 0 := by
  intro ci h
  simp only [List.mem_cons, List.not_mem_nil, or_false] at h
  subst h
  exact ⟨_, _, _, "BarrierMarks$Task", rfl, by decide, zi4, (zm 68 zq1 (by decide +kernel) rfl), Or.inl rfl⟩
theorem cv_B_177 : zCV "BarrierMarks" 177 "BarrierMarks$AckRow" ⟨"BarrierMarks$AckRow", "add", "(II)V"⟩ prog_2_method_2_code 4 none 2 := ⟨⟨(zm 213 zq2 (by decide +kernel) rfl), (zm 214 zq2 (by decide +kernel) rfl), (zm 215 zq2 (by decide +kernel) rfl), (zm 2 zq1 (by decide +kernel) rfl), (zm 216 zq2 (by decide +kernel) rfl)⟩, rfl, by decide, by decide, by decide +kernel⟩
theorem cv_B_134 : zCV "BarrierMarks" 134 "BarrierMarks" ⟨"BarrierMarks", "keepAndAck", "(LBarrierMarks$Mark;LBarrierMarks$Task;)V"⟩ prog_1_method_39_code 3 none 2 := ⟨⟨(zm 205 zq2 (by decide +kernel) rfl), (zm 207 zq2 (by decide +kernel) rfl), (zmp (by decide +kernel) rfl), (zm 1 zq1 (by decide +kernel) rfl), (zm 208 zq2 (by decide +kernel) rfl)⟩, rfl, by decide, by decide, by decide +kernel⟩
theorem fl_B_131 : ∀ ci ∈ [4], z_fld "BarrierMarks" 131 ci 8 := by
  intro ci h
  simp only [List.mem_cons, List.not_mem_nil, or_false] at h
  subst h
  exact ⟨_, _, _, "BarrierMarks$Task", rfl, by decide, zi4, (zm 83 zq1 (by decide +kernel) rfl), Or.inl rfl⟩
theorem ca_B_128_S : zCA "BarrierMarks" 128 "BarrierMarks$Source" "BarrierMarks$Channel" ⟨"BarrierMarks$Channel", "beginMark", "(I)V"⟩ ⟨"BarrierMarks$Source", "beginMark", "(I)V"⟩ prog_6_method_8_code 2 none 1 := ⟨⟨(zm 196 zq2 (by decide +kernel) rfl), (zm 198 zq2 (by decide +kernel) rfl), (zm 202 zq2 (by decide +kernel) rfl), (zm 203 zq2 (by decide +kernel) rfl), (zm 12 zq1 (by decide +kernel) rfl), (zm 204 zq2 (by decide +kernel) rfl)⟩, by decide +kernel, by decide, by decide, by decide +kernel⟩
theorem ca_B_128_L : zCA "BarrierMarks" 128 "BarrierMarks$Line" "BarrierMarks$Channel" ⟨"BarrierMarks$Channel", "beginMark", "(I)V"⟩ ⟨"BarrierMarks$Line", "beginMark", "(I)V"⟩ prog_4_method_7_code 2 none 1 := ⟨⟨(zm 196 zq2 (by decide +kernel) rfl), (zm 198 zq2 (by decide +kernel) rfl), (zm 199 zq2 (by decide +kernel) rfl), (zm 200 zq2 (by decide +kernel) rfl), (zm 14 zq1 (by decide +kernel) rfl), (zm 201 zq2 (by decide +kernel) rfl)⟩, by decide +kernel, by decide, by decide, by decide +kernel⟩
theorem fl_B_119 : ∀ ci ∈ [5], z_fld "BarrierMarks" 119 ci 8 := by
  intro ci h
  simp only [List.mem_cons, List.not_mem_nil, or_false] at h
  subst h
  exact ⟨_, _, _, "BarrierMarks", rfl, by decide, zi5, (zm 112 zq1 (by decide +kernel) rfl), Or.inl rfl⟩
theorem th_B_125_66 : zThr "BarrierMarks" 66 125 70 "java/lang/IllegalStateException" "three marks are begun, or there are forty" := ⟨by decide +kernel, (zm 221 zq1 (by decide +kernel) rfl), (zm 10 zq1 (by decide +kernel) rfl), by decide +kernel, by decide +kernel, tw_B_70, tx_B_70_66⟩
theorem fl_B_122 : ∀ ci ∈ [5], z_fld "BarrierMarks" 122 ci 7 := by
  intro ci h
  simp only [List.mem_cons, List.not_mem_nil, or_false] at h
  subst h
  exact ⟨_, _, _, "BarrierMarks", rfl, by decide, zi5, (zm 111 zq1 (by decide +kernel) rfl), Or.inl rfl⟩
theorem ni_3 : Cond.instantiable "BarrierMarks$Mark" 9 ∈ zTs := (zm 151 zq2 (by decide +kernel) rfl)
theorem nz_3 : Cond.initialized "BarrierMarks$Mark" ∈ zTs := (zm 15 zq1 (by decide +kernel) rfl)
theorem cn_B_127 : zCI "BarrierMarks" 127 ⟨"BarrierMarks$Mark", "<init>", "(II)V"⟩ prog_5_method_1_code 4 2 := ⟨(zm 152 zq2 (by decide +kernel) rfl), (zm 153 zq2 (by decide +kernel) rfl), (zm 15 zq1 (by decide +kernel) rfl), (zm 154 zq2 (by decide +kernel) rfl), rfl, by decide, by decide, by decide +kernel⟩
theorem ae_6 : ∀ ci ∈ [3], ∃ q, zcl[ci]? = some q ∧ (q.1 = "BarrierMarks$Mark" ∨ (q.1, "BarrierMarks$Mark") ∈ zcast) := by
  intro ci h
  simp only [List.mem_cons, List.not_mem_nil, or_false] at h
  subst h
  exact ⟨_, rfl, Or.inl rfl⟩
theorem pf_B_122 : ∀ ci ∈ [5], z_fld "BarrierMarks" 122 ci 7 ∧ z_wrt ci 7 false "BarrierMarks" .int := by
  intro ci h
  refine ⟨fl_B_122 ci h, ?_⟩
  simp only [List.mem_cons, List.not_mem_nil, or_false] at h
  subst h
  exact ⟨_, _, _, zty5, rfl, rfl, fun h => absurd h (by decide), by decide +kernel, zt5, zn5⟩
theorem pf_B_119 : ∀ ci ∈ [5], z_fld "BarrierMarks" 119 ci 8 ∧ z_wrt ci 8 false "BarrierMarks" .int := by
  intro ci h
  refine ⟨fl_B_119 ci h, ?_⟩
  simp only [List.mem_cons, List.not_mem_nil, or_false] at h
  subst h
  exact ⟨_, _, _, zty5, rfl, rfl, fun h => absurd h (by decide), by decide +kernel, zt5, zn5⟩
theorem th_B_267_240 : zThr "BarrierMarks" 240 267 244 "java/lang/IndexOutOfBoundsException" "no such mark" := ⟨by decide +kernel, (zm 153 zq1 (by decide +kernel) rfl), (zm 9 zq1 (by decide +kernel) rfl), by decide +kernel, by decide +kernel, tw_B_244, tx_B_244_240⟩
theorem pf_K_22 : ∀ ci ∈ [0], z_fld "BarrierMarks$AckRow" 22 ci 2 ∧ z_wrt ci 2 false "BarrierMarks$AckRow" .int := by
  intro ci h
  refine ⟨fl_K_22 ci h, ?_⟩
  simp only [List.mem_cons, List.not_mem_nil, or_false] at h
  subst h
  exact ⟨_, _, _, zty0, rfl, rfl, fun h => absurd h (by decide), by decide +kernel, zt0, zn0⟩
theorem fl_L_19 : ∀ ci ∈ [2], z_fld "BarrierMarks$Line" 19 ci 6 := by
  intro ci h
  simp only [List.mem_cons, List.not_mem_nil, or_false] at h
  subst h
  exact ⟨_, _, _, "BarrierMarks$Line", rfl, by decide, zi2, (zm 95 zq2 (by decide +kernel) rfl), Or.inl rfl⟩
theorem pf_L_19 : ∀ ci ∈ [2], z_fld "BarrierMarks$Line" 19 ci 6 ∧ z_wrt ci 6 false "BarrierMarks$Line" .int := by
  intro ci h
  refine ⟨fl_L_19 ci h, ?_⟩
  simp only [List.mem_cons, List.not_mem_nil, or_false] at h
  subst h
  exact ⟨_, _, _, zty2, rfl, rfl, fun h => absurd h (by decide), by decide +kernel, zt2, zn2⟩
theorem ca_B_297_S : zCA "BarrierMarks" 297 "BarrierMarks$Source" "BarrierMarks$Channel" ⟨"BarrierMarks$Channel", "dropBarrier", "(I)V"⟩ ⟨"BarrierMarks$Source", "dropBarrier", "(I)V"⟩ prog_6_method_9_code 4 none 1 := ⟨⟨(zm 13 zq3 (by decide +kernel) rfl), (zm 15 zq3 (by decide +kernel) rfl), (zm 19 zq3 (by decide +kernel) rfl), (zm 20 zq3 (by decide +kernel) rfl), (zm 12 zq1 (by decide +kernel) rfl), (zm 21 zq3 (by decide +kernel) rfl)⟩, by decide +kernel, by decide, by decide, by decide +kernel⟩
theorem ca_B_297_L : zCA "BarrierMarks" 297 "BarrierMarks$Line" "BarrierMarks$Channel" ⟨"BarrierMarks$Channel", "dropBarrier", "(I)V"⟩ ⟨"BarrierMarks$Line", "dropBarrier", "(I)V"⟩ prog_4_method_8_code 4 none 1 := ⟨⟨(zm 13 zq3 (by decide +kernel) rfl), (zm 15 zq3 (by decide +kernel) rfl), (zm 16 zq3 (by decide +kernel) rfl), (zm 17 zq3 (by decide +kernel) rfl), (zm 14 zq1 (by decide +kernel) rfl), (zm 18 zq3 (by decide +kernel) rfl)⟩, by decide +kernel, by decide, by decide, by decide +kernel⟩
theorem fl_B_195 : ∀ ci ∈ [1, 2], z_fld "BarrierMarks" 195 ci 2 := by
  intro ci h
  simp only [List.mem_cons, List.not_mem_nil, or_false] at h
  rcases h with rfl | rfl
  · exact ⟨_, _, _, "BarrierMarks$Channel", rfl, by decide, zi1, (zm 25 zq2 (by decide +kernel) rfl), Or.inl rfl⟩
  · exact ⟨_, _, _, "BarrierMarks$Channel", rfl, by decide, zi2, (zm 25 zq2 (by decide +kernel) rfl), Or.inl rfl⟩
theorem pf_B_195 : ∀ ci ∈ [1, 2], z_fld "BarrierMarks" 195 ci 2 ∧ z_wrt ci 2 false "BarrierMarks" .int := by
  intro ci h
  refine ⟨fl_B_195 ci h, ?_⟩
  simp only [List.mem_cons, List.not_mem_nil, or_false] at h
  rcases h with rfl | rfl
  · exact ⟨_, _, _, zty1, rfl, rfl, fun h => absurd h (by decide), by decide +kernel, zt1, zn1⟩
  · exact ⟨_, _, _, zty2, rfl, rfl, fun h => absurd h (by decide), by decide +kernel, zt2, zn2⟩
theorem fl_B_183 : ∀ ci ∈ [3], z_fld "BarrierMarks" 183 ci 8 := by
  intro ci h
  simp only [List.mem_cons, List.not_mem_nil, or_false] at h
  subst h
  exact ⟨_, _, _, "BarrierMarks$Mark", rfl, by decide, zi3, (zm 175 zq2 (by decide +kernel) rfl), Or.inl rfl⟩
theorem pf_B_183 : ∀ ci ∈ [3], z_fld "BarrierMarks" 183 ci 8 ∧ z_wrt ci 8 false "BarrierMarks" .int := by
  intro ci h
  refine ⟨fl_B_183 ci h, ?_⟩
  simp only [List.mem_cons, List.not_mem_nil, or_false] at h
  subst h
  exact ⟨_, _, _, zty3, rfl, rfl, fun h => absurd h (by decide), by decide +kernel, zt3, zn3⟩
theorem cv_B_156 : zCV "BarrierMarks" 156 "BarrierMarks" ⟨"BarrierMarks", "stopMark", "(LBarrierMarks$Mark;I)V"⟩ prog_1_method_38_code 5 none 2 := ⟨⟨(zm 9 zq3 (by decide +kernel) rfl), (zm 11 zq3 (by decide +kernel) rfl), (zmp (by decide +kernel) rfl), (zm 1 zq1 (by decide +kernel) rfl), (zm 12 zq3 (by decide +kernel) rfl)⟩, rfl, by decide, by decide, by decide +kernel⟩
theorem fl_B_172 : ∀ ci ∈ [0], z_fld "BarrierMarks" 172 ci 3 := by
  intro ci h
  simp only [List.mem_cons, List.not_mem_nil, or_false] at h
  subst h
  exact ⟨_, _, _, "BarrierMarks$AckRow", rfl, by decide, zi0, (zm 39 zq1 (by decide +kernel) rfl), Or.inl rfl⟩
theorem cv_B_279 : zCV "BarrierMarks" 279 "BarrierMarks$AckRow" ⟨"BarrierMarks$AckRow", "firstMark", "()I"⟩ prog_2_method_3_code 1 (some .int) 0 := ⟨⟨(zm 228 zq2 (by decide +kernel) rfl), (zm 229 zq2 (by decide +kernel) rfl), (zm 230 zq2 (by decide +kernel) rfl), (zm 2 zq1 (by decide +kernel) rfl), (zm 231 zq2 (by decide +kernel) rfl)⟩, rfl, by decide, by decide, by decide +kernel⟩
theorem cv_B_230 : zCV "BarrierMarks" 230 "BarrierMarks" ⟨"BarrierMarks", "markAt", "(I)LBarrierMarks$Mark;"⟩ prog_1_method_29_code 2 (some (.object "BarrierMarks$Mark")) 1 := ⟨⟨(zm 232 zq2 (by decide +kernel) rfl), (zm 234 zq2 (by decide +kernel) rfl), (zmp (by decide +kernel) rfl), (zm 1 zq1 (by decide +kernel) rfl), (zm 235 zq2 (by decide +kernel) rfl)⟩, rfl, by decide, by decide, by decide +kernel⟩
theorem cv_B_282 : zCV "BarrierMarks" 282 "BarrierMarks$AckRow" ⟨"BarrierMarks$AckRow", "firstTask", "()I"⟩ prog_2_method_4_code 1 (some .int) 0 := ⟨⟨(zm 237 zq2 (by decide +kernel) rfl), (zm 238 zq2 (by decide +kernel) rfl), (zm 239 zq2 (by decide +kernel) rfl), (zm 2 zq1 (by decide +kernel) rfl), (zm 0 zq3 (by decide +kernel) rfl)⟩, rfl, by decide, by decide, by decide +kernel⟩
theorem cv_B_285 : zCV "BarrierMarks" 285 "BarrierMarks$AckRow" ⟨"BarrierMarks$AckRow", "dropFirst", "()V"⟩ prog_2_method_5_code 1 none 0 := ⟨⟨(zm 1 zq3 (by decide +kernel) rfl), (zm 2 zq3 (by decide +kernel) rfl), (zm 3 zq3 (by decide +kernel) rfl), (zm 2 zq1 (by decide +kernel) rfl), (zm 4 zq3 (by decide +kernel) rfl)⟩, rfl, by decide, by decide, by decide +kernel⟩
theorem fl_B_288 : ∀ ci ∈ [3], z_fld "BarrierMarks" 288 ci 3 := by
  intro ci h
  simp only [List.mem_cons, List.not_mem_nil, or_false] at h
  subst h
  exact ⟨_, _, _, "BarrierMarks$Mark", rfl, by decide, zi3, (zm 164 zq2 (by decide +kernel) rfl), Or.inl rfl⟩
theorem fl_B_160 : ∀ ci ∈ [3], z_fld "BarrierMarks" 160 ci 7 := by
  intro ci h
  simp only [List.mem_cons, List.not_mem_nil, or_false] at h
  subst h
  exact ⟨_, _, _, "BarrierMarks$Mark", rfl, by decide, zi3, (zm 173 zq2 (by decide +kernel) rfl), Or.inl rfl⟩
theorem pf_B_160 : ∀ ci ∈ [3], z_fld "BarrierMarks" 160 ci 7 ∧ z_wrt ci 7 false "BarrierMarks" .int := by
  intro ci h
  refine ⟨fl_B_160 ci h, ?_⟩
  simp only [List.mem_cons, List.not_mem_nil, or_false] at h
  subst h
  exact ⟨_, _, _, zty3, rfl, rfl, fun h => absurd h (by decide), by decide +kernel, zt3, zn3⟩
theorem cv_B_291 : zCV "BarrierMarks" 291 "BarrierMarks" ⟨"BarrierMarks", "completeMark", "(LBarrierMarks$Mark;)V"⟩ prog_1_method_37_code 3 none 1 := ⟨⟨(zm 5 zq3 (by decide +kernel) rfl), (zm 7 zq3 (by decide +kernel) rfl), (zmp (by decide +kernel) rfl), (zm 1 zq1 (by decide +kernel) rfl), (zm 8 zq3 (by decide +kernel) rfl)⟩, rfl, by decide, by decide, by decide +kernel⟩
theorem fl_T_33 : ∀ ci ∈ [1, 2], z_fld "BarrierMarks$Task" 33 ci 2 := by
  intro ci h
  simp only [List.mem_cons, List.not_mem_nil, or_false] at h
  rcases h with rfl | rfl
  · exact ⟨_, _, _, "BarrierMarks$Channel", rfl, by decide, zi1, (zm 24 zq2 (by decide +kernel) rfl), Or.inl rfl⟩
  · exact ⟨_, _, _, "BarrierMarks$Channel", rfl, by decide, zi2, (zm 24 zq2 (by decide +kernel) rfl), Or.inl rfl⟩
theorem fl_T_36 : ∀ ci ∈ [1, 2], z_fld "BarrierMarks$Task" 36 ci 3 := by
  intro ci h
  simp only [List.mem_cons, List.not_mem_nil, or_false] at h
  rcases h with rfl | rfl
  · exact ⟨_, _, _, "BarrierMarks$Channel", rfl, by decide, zi1, (zm 28 zq2 (by decide +kernel) rfl), Or.inl rfl⟩
  · exact ⟨_, _, _, "BarrierMarks$Channel", rfl, by decide, zi2, (zm 28 zq2 (by decide +kernel) rfl), Or.inl rfl⟩
theorem fl_S_36 : ∀ ci ∈ [1], z_fld "BarrierMarks$Source" 36 ci 11 := by
  intro ci h
  simp only [List.mem_cons, List.not_mem_nil, or_false] at h
  subst h
  exact ⟨_, _, _, "BarrierMarks$Source", rfl, by decide, zi1, (zm 16 zq2 (by decide +kernel) rfl), Or.inl rfl⟩
theorem fl_S_39 : ∀ ci ∈ [1], z_fld "BarrierMarks$Source" 39 ci 3 := by
  intro ci h
  simp only [List.mem_cons, List.not_mem_nil, or_false] at h
  subst h
  exact ⟨_, _, _, "BarrierMarks$Source", rfl, by decide, zi1, (zm 26 zq2 (by decide +kernel) rfl), Or.inr (zm 27 zq2 (by decide +kernel) rfl)⟩
theorem cv_S_43 : zCV "BarrierMarks$Source" 43 "BarrierMarks$Source" ⟨"BarrierMarks$Source", "barrierIsNext", "()Z"⟩ prog_6_method_3_code 1 (some .boolean) 0 := ⟨⟨(zm 47 zq3 (by decide +kernel) rfl), (zm 48 zq3 (by decide +kernel) rfl), (zm 49 zq3 (by decide +kernel) rfl), (zm 12 zq1 (by decide +kernel) rfl), (zm 50 zq3 (by decide +kernel) rfl)⟩, rfl, by decide, by decide, by decide +kernel⟩
theorem fl_S_47 : ∀ ci ∈ [1], z_fld "BarrierMarks$Source" 47 ci 12 := by
  intro ci h
  simp only [List.mem_cons, List.not_mem_nil, or_false] at h
  subst h
  exact ⟨_, _, _, "BarrierMarks$Source", rfl, by decide, zi1, (zm 18 zq2 (by decide +kernel) rfl), Or.inl rfl⟩
theorem ca_T_43_S : zCA "BarrierMarks$Task" 43 "BarrierMarks$Source" "BarrierMarks$Channel" ⟨"BarrierMarks$Channel", "nextKind", "()I"⟩ ⟨"BarrierMarks$Source", "nextKind", "()I"⟩ prog_6_method_4_code 1 (some .int) 0 := ⟨⟨(zm 38 zq3 (by decide +kernel) rfl), (zm 40 zq3 (by decide +kernel) rfl), (zm 44 zq3 (by decide +kernel) rfl), (zm 45 zq3 (by decide +kernel) rfl), (zm 12 zq1 (by decide +kernel) rfl), (zm 46 zq3 (by decide +kernel) rfl)⟩, by decide +kernel, by decide, by decide, by decide +kernel⟩
theorem ca_T_43_L : zCA "BarrierMarks$Task" 43 "BarrierMarks$Line" "BarrierMarks$Channel" ⟨"BarrierMarks$Channel", "nextKind", "()I"⟩ ⟨"BarrierMarks$Line", "nextKind", "()I"⟩ prog_4_method_3_code 1 (some .int) 0 := ⟨⟨(zm 38 zq3 (by decide +kernel) rfl), (zm 40 zq3 (by decide +kernel) rfl), (zm 41 zq3 (by decide +kernel) rfl), (zm 42 zq3 (by decide +kernel) rfl), (zm 14 zq1 (by decide +kernel) rfl), (zm 43 zq3 (by decide +kernel) rfl)⟩, by decide +kernel, by decide, by decide, by decide +kernel⟩
theorem fl_T_40 : ∀ ci ∈ [4], z_fld "BarrierMarks$Task" 40 ci 5 := by
  intro ci h
  simp only [List.mem_cons, List.not_mem_nil, or_false] at h
  subst h
  exact ⟨_, _, _, "BarrierMarks$Task", rfl, by decide, zi4, (zm 75 zq1 (by decide +kernel) rfl), Or.inl rfl⟩
theorem fl_T_47 : ∀ ci ∈ [2], z_fld "BarrierMarks$Task" 47 ci 6 := by
  intro ci h
  simp only [List.mem_cons, List.not_mem_nil, or_false] at h
  subst h
  exact ⟨_, _, _, "BarrierMarks$Line", rfl, by decide, zi2, (zm 96 zq2 (by decide +kernel) rfl), Or.inl rfl⟩
theorem pf_S_36 : ∀ ci ∈ [1], z_fld "BarrierMarks$Source" 36 ci 11 ∧ z_wrt ci 11 false "BarrierMarks$Source" .int := by
  intro ci h
  refine ⟨fl_S_36 ci h, ?_⟩
  simp only [List.mem_cons, List.not_mem_nil, or_false] at h
  subst h
  exact ⟨_, _, _, zty1, rfl, rfl, fun h => absurd h (by decide), by decide +kernel, zt1, zn1⟩
theorem cv_S_50 : zCV "BarrierMarks$Source" 50 "BarrierMarks$Source" ⟨"BarrierMarks$Source", "dropBarrier", "(I)V"⟩ prog_6_method_9_code 4 none 1 := ⟨⟨(zm 77 zq3 (by decide +kernel) rfl), (zm 20 zq3 (by decide +kernel) rfl), (zm 112 zq5 (by decide +kernel) rfl), (zm 12 zq1 (by decide +kernel) rfl), (zm 21 zq3 (by decide +kernel) rfl)⟩, rfl, by decide, by decide, by decide +kernel⟩
theorem al_L_23 : Cond.methodLink "BarrierMarks$Line" 23 arraycopyName ∈ zTs := by decide +kernel
theorem an_ : Cond.native arraycopyName ∈ zTs := by decide +kernel
theorem as_ : Cond.static arraycopyName ∈ zTs := by decide +kernel
theorem ai_ : Cond.initialized "java/lang/System" ∈ zTs := by decide +kernel
theorem pf_T_40 : ∀ ci ∈ [4], z_fld "BarrierMarks$Task" 40 ci 5 ∧ z_wrt ci 5 false "BarrierMarks$Task" .int := by
  intro ci h
  refine ⟨fl_T_40 ci h, ?_⟩
  simp only [List.mem_cons, List.not_mem_nil, or_false] at h
  subst h
  exact ⟨_, _, _, zty4, rfl, rfl, fun h => absurd h (by decide), by decide +kernel, zt4, zn4⟩
theorem cv_T_50 : zCV "BarrierMarks$Task" 50 "BarrierMarks$Line" ⟨"BarrierMarks$Line", "put", "(IJ)V"⟩ prog_4_method_2_code 4 none 2 := ⟨⟨(zm 87 zq3 (by decide +kernel) rfl), (zm 88 zq3 (by decide +kernel) rfl), (zm 89 zq3 (by decide +kernel) rfl), (zm 14 zq1 (by decide +kernel) rfl), (zm 90 zq3 (by decide +kernel) rfl)⟩, rfl, by decide, by decide, by decide +kernel⟩
theorem ca_B_344_S : zCA "BarrierMarks" 344 "BarrierMarks$Source" "BarrierMarks$Channel" ⟨"BarrierMarks$Channel", "passNext", "()V"⟩ ⟨"BarrierMarks$Source", "passNext", "()V"⟩ prog_6_method_6_code 1 none 0 := ⟨⟨(zm 65 zq3 (by decide +kernel) rfl), (zm 67 zq3 (by decide +kernel) rfl), (zm 74 zq3 (by decide +kernel) rfl), (zm 75 zq3 (by decide +kernel) rfl), (zm 12 zq1 (by decide +kernel) rfl), (zm 76 zq3 (by decide +kernel) rfl)⟩, by decide +kernel, by decide, by decide, by decide +kernel⟩
theorem ca_B_344_L : zCA "BarrierMarks" 344 "BarrierMarks$Line" "BarrierMarks$Channel" ⟨"BarrierMarks$Channel", "passNext", "()V"⟩ ⟨"BarrierMarks$Line", "passNext", "()V"⟩ prog_4_method_5_code 1 none 0 := ⟨⟨(zm 65 zq3 (by decide +kernel) rfl), (zm 67 zq3 (by decide +kernel) rfl), (zm 68 zq3 (by decide +kernel) rfl), (zm 69 zq3 (by decide +kernel) rfl), (zm 14 zq1 (by decide +kernel) rfl), (zm 70 zq3 (by decide +kernel) rfl)⟩, by decide +kernel, by decide, by decide, by decide +kernel⟩
theorem cv_B_347 : zCV "BarrierMarks" 347 "BarrierMarks$Task" ⟨"BarrierMarks$Task", "lookFromBehind", "(I)V"⟩ prog_7_method_8_code 2 none 1 := ⟨⟨(zm 78 zq3 (by decide +kernel) rfl), (zm 79 zq3 (by decide +kernel) rfl), (zm 80 zq3 (by decide +kernel) rfl), (zm 4 zq1 (by decide +kernel) rfl), (zm 81 zq3 (by decide +kernel) rfl)⟩, rfl, by decide, by decide, by decide +kernel⟩
theorem fl_B_208 : ∀ ci ∈ [1, 2], z_fld "BarrierMarks" 208 ci 3 := by
  intro ci h
  simp only [List.mem_cons, List.not_mem_nil, or_false] at h
  rcases h with rfl | rfl
  · exact ⟨_, _, _, "BarrierMarks$Channel", rfl, by decide, zi1, (zm 29 zq2 (by decide +kernel) rfl), Or.inl rfl⟩
  · exact ⟨_, _, _, "BarrierMarks$Channel", rfl, by decide, zi2, (zm 29 zq2 (by decide +kernel) rfl), Or.inl rfl⟩
theorem pf_B_208 : ∀ ci ∈ [1, 2], z_fld "BarrierMarks" 208 ci 3 ∧ z_wrt ci 3 false "BarrierMarks" .boolean := by
  intro ci h
  refine ⟨fl_B_208 ci h, ?_⟩
  simp only [List.mem_cons, List.not_mem_nil, or_false] at h
  rcases h with rfl | rfl
  · exact ⟨_, _, _, zty1, rfl, rfl, fun h => absurd h (by decide), by decide +kernel, zt1, zn1⟩
  · exact ⟨_, _, _, zty2, rfl, rfl, fun h => absurd h (by decide), by decide +kernel, zt2, zn2⟩
theorem fl_B_212 : ∀ ci ∈ [4], z_fld "BarrierMarks" 212 ci 6 := by
  intro ci h
  simp only [List.mem_cons, List.not_mem_nil, or_false] at h
  subst h
  exact ⟨_, _, _, "BarrierMarks$Task", rfl, by decide, zi4, (zm 78 zq1 (by decide +kernel) rfl), Or.inl rfl⟩
theorem pf_B_212 : ∀ ci ∈ [4], z_fld "BarrierMarks" 212 ci 6 ∧ z_wrt ci 6 false "BarrierMarks" .long := by
  intro ci h
  refine ⟨fl_B_212 ci h, ?_⟩
  simp only [List.mem_cons, List.not_mem_nil, or_false] at h
  subst h
  exact ⟨_, _, _, zty4, rfl, rfl, fun h => absurd h (by decide), by decide +kernel, zt4, zn4⟩
theorem fl_B_216 : ∀ ci ∈ [4], z_fld "BarrierMarks" 216 ci 7 := by
  intro ci h
  simp only [List.mem_cons, List.not_mem_nil, or_false] at h
  subst h
  exact ⟨_, _, _, "BarrierMarks$Task", rfl, by decide, zi4, (zm 81 zq1 (by decide +kernel) rfl), Or.inl rfl⟩
theorem pf_B_216 : ∀ ci ∈ [4], z_fld "BarrierMarks" 216 ci 7 ∧ z_wrt ci 7 false "BarrierMarks" .int := by
  intro ci h
  refine ⟨fl_B_216 ci h, ?_⟩
  simp only [List.mem_cons, List.not_mem_nil, or_false] at h
  subst h
  exact ⟨_, _, _, zty4, rfl, rfl, fun h => absurd h (by decide), by decide +kernel, zt4, zn4⟩
theorem kl_B_350 : Cond.constantLong "BarrierMarks" 350 3 ∈ zTs := (zm 82 zq3 (by decide +kernel) rfl)
theorem cv_B_324 : zCV "BarrierMarks" 324 "BarrierMarks$Task" ⟨"BarrierMarks$Task", "putOut", "(IJ)V"⟩ prog_7_method_10_code 5 none 2 := ⟨⟨(zm 83 zq3 (by decide +kernel) rfl), (zm 84 zq3 (by decide +kernel) rfl), (zm 85 zq3 (by decide +kernel) rfl), (zm 4 zq1 (by decide +kernel) rfl), (zm 86 zq3 (by decide +kernel) rfl)⟩, rfl, by decide, by decide, by decide +kernel⟩
theorem cv_B_331 : zCV "BarrierMarks" 331 "BarrierMarks$Task" ⟨"BarrierMarks$Task", "nextOffer", "()I"⟩ prog_7_method_7_code 3 (some .int) 0 := ⟨⟨(zm 34 zq3 (by decide +kernel) rfl), (zm 35 zq3 (by decide +kernel) rfl), (zm 36 zq3 (by decide +kernel) rfl), (zm 4 zq1 (by decide +kernel) rfl), (zm 37 zq3 (by decide +kernel) rfl)⟩, rfl, by decide, by decide, by decide +kernel⟩
theorem fl_B_334 : ∀ ci ∈ [4], z_fld "BarrierMarks" 334 ci 1 := by
  intro ci h
  simp only [List.mem_cons, List.not_mem_nil, or_false] at h
  subst h
  exact ⟨_, _, _, "BarrierMarks$Task", rfl, by decide, zi4, (zm 70 zq1 (by decide +kernel) rfl), Or.inl rfl⟩
theorem ca_B_337_S : zCA "BarrierMarks" 337 "BarrierMarks$Source" "BarrierMarks$Channel" ⟨"BarrierMarks$Channel", "nextKind", "()I"⟩ ⟨"BarrierMarks$Source", "nextKind", "()I"⟩ prog_6_method_4_code 1 (some .int) 0 := ⟨⟨(zm 51 zq3 (by decide +kernel) rfl), (zm 40 zq3 (by decide +kernel) rfl), (zm 44 zq3 (by decide +kernel) rfl), (zm 45 zq3 (by decide +kernel) rfl), (zm 12 zq1 (by decide +kernel) rfl), (zm 46 zq3 (by decide +kernel) rfl)⟩, by decide +kernel, by decide, by decide, by decide +kernel⟩
theorem ca_B_337_L : zCA "BarrierMarks" 337 "BarrierMarks$Line" "BarrierMarks$Channel" ⟨"BarrierMarks$Channel", "nextKind", "()I"⟩ ⟨"BarrierMarks$Line", "nextKind", "()I"⟩ prog_4_method_3_code 1 (some .int) 0 := ⟨⟨(zm 51 zq3 (by decide +kernel) rfl), (zm 40 zq3 (by decide +kernel) rfl), (zm 41 zq3 (by decide +kernel) rfl), (zm 42 zq3 (by decide +kernel) rfl), (zm 14 zq1 (by decide +kernel) rfl), (zm 43 zq3 (by decide +kernel) rfl)⟩, by decide +kernel, by decide, by decide, by decide +kernel⟩
theorem ca_B_340_S : zCA "BarrierMarks" 340 "BarrierMarks$Source" "BarrierMarks$Channel" ⟨"BarrierMarks$Channel", "nextValue", "()J"⟩ ⟨"BarrierMarks$Source", "nextValue", "()J"⟩ prog_6_method_5_code 1 (some .long) 0 := ⟨⟨(zm 52 zq3 (by decide +kernel) rfl), (zm 54 zq3 (by decide +kernel) rfl), (zm 58 zq3 (by decide +kernel) rfl), (zm 59 zq3 (by decide +kernel) rfl), (zm 12 zq1 (by decide +kernel) rfl), (zm 60 zq3 (by decide +kernel) rfl)⟩, by decide +kernel, by decide, by decide, by decide +kernel⟩
theorem ca_B_340_L : zCA "BarrierMarks" 340 "BarrierMarks$Line" "BarrierMarks$Channel" ⟨"BarrierMarks$Channel", "nextValue", "()J"⟩ ⟨"BarrierMarks$Line", "nextValue", "()J"⟩ prog_4_method_4_code 1 (some .long) 0 := ⟨⟨(zm 52 zq3 (by decide +kernel) rfl), (zm 54 zq3 (by decide +kernel) rfl), (zm 55 zq3 (by decide +kernel) rfl), (zm 56 zq3 (by decide +kernel) rfl), (zm 14 zq1 (by decide +kernel) rfl), (zm 57 zq3 (by decide +kernel) rfl)⟩, by decide +kernel, by decide, by decide, by decide +kernel⟩
theorem cv_B_321 : zCV "BarrierMarks" 321 "BarrierMarks$Task" ⟨"BarrierMarks$Task", "hasCredits", "()Z"⟩ prog_7_method_9_code 2 (some .boolean) 0 := ⟨⟨(zm 61 zq3 (by decide +kernel) rfl), (zm 62 zq3 (by decide +kernel) rfl), (zm 63 zq3 (by decide +kernel) rfl), (zm 4 zq1 (by decide +kernel) rfl), (zm 64 zq3 (by decide +kernel) rfl)⟩, rfl, by decide, by decide, by decide +kernel⟩
theorem fl_B_163 : ∀ ci ∈ [3], z_fld "BarrierMarks" 163 ci 1 := by
  intro ci h
  simp only [List.mem_cons, List.not_mem_nil, or_false] at h
  subst h
  exact ⟨_, _, _, "BarrierMarks$Mark", rfl, by decide, zi3, (zm 160 zq2 (by decide +kernel) rfl), Or.inl rfl⟩
theorem pf_B_131 : ∀ ci ∈ [4], z_fld "BarrierMarks" 131 ci 8 ∧ z_wrt ci 8 false "BarrierMarks" .boolean := by
  intro ci h
  refine ⟨fl_B_131 ci h, ?_⟩
  simp only [List.mem_cons, List.not_mem_nil, or_false] at h
  subst h
  exact ⟨_, _, _, zty4, rfl, rfl, fun h => absurd h (by decide), by decide +kernel, zt4, zn4⟩
theorem pf_T_33 : ∀ ci ∈ [1, 2], z_fld "BarrierMarks$Task" 33 ci 2 ∧ z_wrt ci 2 false "BarrierMarks$Task" .int := by
  intro ci h
  refine ⟨fl_T_33 ci h, ?_⟩
  simp only [List.mem_cons, List.not_mem_nil, or_false] at h
  rcases h with rfl | rfl
  · exact ⟨_, _, _, zty1, rfl, rfl, fun h => absurd h (by decide), by decide +kernel, zt1, zn1⟩
  · exact ⟨_, _, _, zty2, rfl, rfl, fun h => absurd h (by decide), by decide +kernel, zt2, zn2⟩
theorem fl_B_167 : ∀ ci ∈ [3], z_fld "BarrierMarks" 167 ci 2 := by
  intro ci h
  simp only [List.mem_cons, List.not_mem_nil, or_false] at h
  subst h
  exact ⟨_, _, _, "BarrierMarks$Mark", rfl, by decide, zi3, (zm 162 zq2 (by decide +kernel) rfl), Or.inl rfl⟩
theorem cv_B_328 : zCV "BarrierMarks" 328 "BarrierMarks$Task" ⟨"BarrierMarks$Task", "letGo", "()V"⟩ prog_7_method_6_code 2 none 0 := ⟨⟨(zm 103 zq3 (by decide +kernel) rfl), (zm 104 zq3 (by decide +kernel) rfl), (zm 105 zq3 (by decide +kernel) rfl), (zm 4 zq1 (by decide +kernel) rfl), (zm 106 zq3 (by decide +kernel) rfl)⟩, rfl, by decide, by decide, by decide +kernel⟩
theorem cv_B_305 : zCV "BarrierMarks" 305 "BarrierMarks$Task" ⟨"BarrierMarks$Task", "hasOpen", "()Z"⟩ prog_7_method_4_code 2 (some .boolean) 0 := ⟨⟨(zm 26 zq3 (by decide +kernel) rfl), (zm 27 zq3 (by decide +kernel) rfl), (zm 28 zq3 (by decide +kernel) rfl), (zm 4 zq1 (by decide +kernel) rfl), (zm 29 zq3 (by decide +kernel) rfl)⟩, rfl, by decide, by decide, by decide +kernel⟩
theorem cv_B_312 : zCV "BarrierMarks" 312 "BarrierMarks$Task" ⟨"BarrierMarks$Task", "heldFor", "()I"⟩ prog_7_method_5_code 2 (some .int) 0 := ⟨⟨(zm 91 zq3 (by decide +kernel) rfl), (zm 92 zq3 (by decide +kernel) rfl), (zm 93 zq3 (by decide +kernel) rfl), (zm 4 zq1 (by decide +kernel) rfl), (zm 94 zq3 (by decide +kernel) rfl)⟩, rfl, by decide, by decide, by decide +kernel⟩
theorem cv_B_317 : zCV "BarrierMarks" 317 "BarrierMarks" ⟨"BarrierMarks", "keepFor", "(LBarrierMarks$Task;LBarrierMarks$Mark;)I"⟩ prog_1_method_41_code 3 (some .int) 2 := ⟨⟨(zm 99 zq3 (by decide +kernel) rfl), (zm 101 zq3 (by decide +kernel) rfl), (zmp (by decide +kernel) rfl), (zm 1 zq1 (by decide +kernel) rfl), (zm 102 zq3 (by decide +kernel) rfl)⟩, rfl, by decide, by decide, by decide +kernel⟩
theorem cv_B_314 : zCV "BarrierMarks" 314 "BarrierMarks" ⟨"BarrierMarks", "endTask", "(LBarrierMarks$Task;)I"⟩ prog_1_method_42_code 3 (some .int) 1 := ⟨⟨(zm 95 zq3 (by decide +kernel) rfl), (zm 97 zq3 (by decide +kernel) rfl), (zmp (by decide +kernel) rfl), (zm 1 zq1 (by decide +kernel) rfl), (zm 98 zq3 (by decide +kernel) rfl)⟩, rfl, by decide, by decide, by decide +kernel⟩
theorem cv_B_309 : zCV "BarrierMarks" 309 "BarrierMarks" ⟨"BarrierMarks", "takeNext", "(LBarrierMarks$Task;)I"⟩ prog_1_method_43_code 7 (some .int) 1 := ⟨⟨(zm 30 zq3 (by decide +kernel) rfl), (zm 32 zq3 (by decide +kernel) rfl), (zmp (by decide +kernel) rfl), (zm 1 zq1 (by decide +kernel) rfl), (zm 33 zq3 (by decide +kernel) rfl)⟩, rfl, by decide, by decide, by decide +kernel⟩
theorem cv_B_142 : zCV "BarrierMarks" 142 "BarrierMarks" ⟨"BarrierMarks", "taskTurn", "(LBarrierMarks$Task;)I"⟩ prog_1_method_40_code 3 (some .int) 1 := ⟨⟨(zm 22 zq3 (by decide +kernel) rfl), (zm 24 zq3 (by decide +kernel) rfl), (zmp (by decide +kernel) rfl), (zm 1 zq1 (by decide +kernel) rfl), (zm 25 zq3 (by decide +kernel) rfl)⟩, rfl, by decide, by decide, by decide +kernel⟩
theorem cv_B_138 : zCV "BarrierMarks" 138 "BarrierMarks" ⟨"BarrierMarks", "keeperTurn", "()I"⟩ prog_1_method_36_code 3 (some .int) 0 := ⟨⟨(zm 224 zq2 (by decide +kernel) rfl), (zm 226 zq2 (by decide +kernel) rfl), (zmp (by decide +kernel) rfl), (zm 1 zq1 (by decide +kernel) rfl), (zm 227 zq2 (by decide +kernel) rfl)⟩, rfl, by decide, by decide, by decide +kernel⟩
theorem kl_B_148 : Cond.constantLong "BarrierMarks" 148 6364136223846793005 ∈ zTs := (zm 115 zq3 (by decide +kernel) rfl)
theorem kl_B_150 : Cond.constantLong "BarrierMarks" 150 1442695040888963407 ∈ zTs := (zm 116 zq3 (by decide +kernel) rfl)
theorem th_B_146_87 : zThr "BarrierMarks" 87 146 91 "java/lang/IllegalArgumentException" "turns are 1 to 2000" := ⟨by decide +kernel, (zm 69 zq2 (by decide +kernel) rfl), (zm 13 zq1 (by decide +kernel) rfl), by decide +kernel, by decide +kernel, tw_B_91, tx_B_91_87⟩
theorem th_B_269_66 : zThr "BarrierMarks" 66 269 70 "java/lang/IllegalStateException" "the mark is not begun" := ⟨by decide +kernel, (zm 221 zq1 (by decide +kernel) rfl), (zm 10 zq1 (by decide +kernel) rfl), by decide +kernel, by decide +kernel, tw_B_70, tx_B_70_66⟩
theorem cv_B_152 : zCV "BarrierMarks" 152 "BarrierMarks" ⟨"BarrierMarks", "begunMarkAt", "(I)LBarrierMarks$Mark;"⟩ prog_1_method_30_code 3 (some (.object "BarrierMarks$Mark")) 1 := ⟨⟨(zm 124 zq3 (by decide +kernel) rfl), (zm 126 zq3 (by decide +kernel) rfl), (zmp (by decide +kernel) rfl), (zm 1 zq1 (by decide +kernel) rfl), (zm 127 zq3 (by decide +kernel) rfl)⟩, rfl, by decide, by decide, by decide +kernel⟩
theorem th_B_170_66 : zThr "BarrierMarks" 66 170 70 "java/lang/IllegalStateException" "the task has kept, or was told so already" := ⟨by decide +kernel, (zm 221 zq1 (by decide +kernel) rfl), (zm 10 zq1 (by decide +kernel) rfl), by decide +kernel, by decide +kernel, tw_B_70, tx_B_70_66⟩
theorem th_B_175_66 : zThr "BarrierMarks" 66 175 70 "java/lang/IllegalStateException" "the task has not kept, or 200 acks wait" := ⟨by decide +kernel, (zm 221 zq1 (by decide +kernel) rfl), (zm 10 zq1 (by decide +kernel) rfl), by decide +kernel, by decide +kernel, tw_B_70, tx_B_70_66⟩
theorem th_B_271_66 : zThr "BarrierMarks" 66 271 70 "java/lang/IllegalStateException" "the mark is not complete" := ⟨by decide +kernel, (zm 221 zq1 (by decide +kernel) rfl), (zm 10 zq1 (by decide +kernel) rfl), by decide +kernel, by decide +kernel, tw_B_70, tx_B_70_66⟩
theorem fl_T_54 : ∀ ci ∈ [3], z_fld "BarrierMarks$Task" 54 ci 4 := by
  intro ci h
  simp only [List.mem_cons, List.not_mem_nil, or_false] at h
  subst h
  exact ⟨_, _, _, "BarrierMarks$Mark", rfl, by decide, zi3, (zm 166 zq2 (by decide +kernel) rfl), Or.inl rfl⟩
theorem fl_T_60 : ∀ ci ∈ [4], z_fld "BarrierMarks$Task" 60 ci 6 := by
  intro ci h
  simp only [List.mem_cons, List.not_mem_nil, or_false] at h
  subst h
  exact ⟨_, _, _, "BarrierMarks$Task", rfl, by decide, zi4, (zm 77 zq1 (by decide +kernel) rfl), Or.inl rfl⟩
theorem pf_T_60 : ∀ ci ∈ [4], z_fld "BarrierMarks$Task" 60 ci 6 ∧ z_wrt ci 6 false "BarrierMarks$Task" .long := by
  intro ci h
  refine ⟨fl_T_60 ci h, ?_⟩
  simp only [List.mem_cons, List.not_mem_nil, or_false] at h
  subst h
  exact ⟨_, _, _, zty4, rfl, rfl, fun h => absurd h (by decide), by decide +kernel, zt4, zn4⟩
theorem fl_T_64 : ∀ ci ∈ [3], z_fld "BarrierMarks$Task" 64 ci 5 := by
  intro ci h
  simp only [List.mem_cons, List.not_mem_nil, or_false] at h
  subst h
  exact ⟨_, _, _, "BarrierMarks$Mark", rfl, by decide, zi3, (zm 169 zq2 (by decide +kernel) rfl), Or.inl rfl⟩
theorem fl_T_68 : ∀ ci ∈ [4], z_fld "BarrierMarks$Task" 68 ci 7 := by
  intro ci h
  simp only [List.mem_cons, List.not_mem_nil, or_false] at h
  subst h
  exact ⟨_, _, _, "BarrierMarks$Task", rfl, by decide, zi4, (zm 80 zq1 (by decide +kernel) rfl), Or.inl rfl⟩
theorem pf_T_68 : ∀ ci ∈ [4], z_fld "BarrierMarks$Task" 68 ci 7 ∧ z_wrt ci 7 false "BarrierMarks$Task" .int := by
  intro ci h
  refine ⟨fl_T_68 ci h, ?_⟩
  simp only [List.mem_cons, List.not_mem_nil, or_false] at h
  subst h
  exact ⟨_, _, _, zty4, rfl, rfl, fun h => absurd h (by decide), by decide +kernel, zt4, zn4⟩
theorem fl_T_70 : ∀ ci ∈ [3], z_fld "BarrierMarks$Task" 70 ci 6 := by
  intro ci h
  simp only [List.mem_cons, List.not_mem_nil, or_false] at h
  subst h
  exact ⟨_, _, _, "BarrierMarks$Mark", rfl, by decide, zi3, (zm 172 zq2 (by decide +kernel) rfl), Or.inl rfl⟩
theorem fl_T_73 : ∀ ci ∈ [4], z_fld "BarrierMarks$Task" 73 ci 8 := by
  intro ci h
  simp only [List.mem_cons, List.not_mem_nil, or_false] at h
  subst h
  exact ⟨_, _, _, "BarrierMarks$Task", rfl, by decide, zi4, (zm 84 zq1 (by decide +kernel) rfl), Or.inl rfl⟩
theorem pf_T_73 : ∀ ci ∈ [4], z_fld "BarrierMarks$Task" 73 ci 8 ∧ z_wrt ci 8 false "BarrierMarks$Task" .boolean := by
  intro ci h
  refine ⟨fl_T_73 ci h, ?_⟩
  simp only [List.mem_cons, List.not_mem_nil, or_false] at h
  subst h
  exact ⟨_, _, _, zty4, rfl, rfl, fun h => absurd h (by decide), by decide +kernel, zt4, zn4⟩
theorem ca_B_209_S : zCA "BarrierMarks" 209 "BarrierMarks$Source" "BarrierMarks$Channel" ⟨"BarrierMarks$Channel", "left", "()I"⟩ ⟨"BarrierMarks$Source", "left", "()I"⟩ prog_6_method_7_code 1 (some .int) 0 := ⟨⟨(zm 178 zq3 (by decide +kernel) rfl), (zm 180 zq3 (by decide +kernel) rfl), (zm 184 zq3 (by decide +kernel) rfl), (zm 185 zq3 (by decide +kernel) rfl), (zm 12 zq1 (by decide +kernel) rfl), (zm 186 zq3 (by decide +kernel) rfl)⟩, by decide +kernel, by decide, by decide, by decide +kernel⟩
theorem ca_B_209_L : zCA "BarrierMarks" 209 "BarrierMarks$Line" "BarrierMarks$Channel" ⟨"BarrierMarks$Channel", "left", "()I"⟩ ⟨"BarrierMarks$Line", "left", "()I"⟩ prog_4_method_6_code 1 (some .int) 0 := ⟨⟨(zm 178 zq3 (by decide +kernel) rfl), (zm 180 zq3 (by decide +kernel) rfl), (zm 181 zq3 (by decide +kernel) rfl), (zm 182 zq3 (by decide +kernel) rfl), (zm 14 zq1 (by decide +kernel) rfl), (zm 183 zq3 (by decide +kernel) rfl)⟩, by decide +kernel, by decide, by decide, by decide +kernel⟩
theorem ca_B_193_S : zCA "BarrierMarks" 193 "BarrierMarks$Source" "BarrierMarks$Channel" ⟨"BarrierMarks$Channel", "goBack", "(I)V"⟩ ⟨"BarrierMarks$Source", "goBack", "(I)V"⟩ prog_6_method_10_code 2 none 1 := ⟨⟨(zm 165 zq3 (by decide +kernel) rfl), (zm 167 zq3 (by decide +kernel) rfl), (zm 171 zq3 (by decide +kernel) rfl), (zm 172 zq3 (by decide +kernel) rfl), (zm 12 zq1 (by decide +kernel) rfl), (zm 173 zq3 (by decide +kernel) rfl)⟩, by decide +kernel, by decide, by decide, by decide +kernel⟩
theorem ca_B_193_L : zCA "BarrierMarks" 193 "BarrierMarks$Line" "BarrierMarks$Channel" ⟨"BarrierMarks$Channel", "goBack", "(I)V"⟩ ⟨"BarrierMarks$Line", "goBack", "(I)V"⟩ prog_4_method_9_code 2 none 1 := ⟨⟨(zm 165 zq3 (by decide +kernel) rfl), (zm 167 zq3 (by decide +kernel) rfl), (zm 168 zq3 (by decide +kernel) rfl), (zm 169 zq3 (by decide +kernel) rfl), (zm 14 zq1 (by decide +kernel) rfl), (zm 170 zq3 (by decide +kernel) rfl)⟩, by decide +kernel, by decide, by decide, by decide +kernel⟩
theorem cv_B_201 : zCV "BarrierMarks" 201 "BarrierMarks" ⟨"BarrierMarks", "hasEnded", "(I)Z"⟩ prog_1_method_35_code 2 (some .boolean) 1 := ⟨⟨(zm 174 zq3 (by decide +kernel) rfl), (zm 176 zq3 (by decide +kernel) rfl), (zmp (by decide +kernel) rfl), (zm 1 zq1 (by decide +kernel) rfl), (zm 177 zq3 (by decide +kernel) rfl)⟩, rfl, by decide, by decide, by decide +kernel⟩
theorem cv_B_189 : zCV "BarrierMarks" 189 "BarrierMarks$Task" ⟨"BarrierMarks$Task", "goBack", "(LBarrierMarks$Mark;)V"⟩ prog_7_method_11_code 2 none 1 := ⟨⟨(zm 161 zq3 (by decide +kernel) rfl), (zm 162 zq3 (by decide +kernel) rfl), (zm 163 zq3 (by decide +kernel) rfl), (zm 4 zq1 (by decide +kernel) rfl), (zm 164 zq3 (by decide +kernel) rfl)⟩, rfl, by decide, by decide, by decide +kernel⟩
theorem cv_B_186 : zCV "BarrierMarks" 186 "BarrierMarks$AckRow" ⟨"BarrierMarks$AckRow", "clear", "()V"⟩ prog_2_method_6_code 1 none 0 := ⟨⟨(zm 157 zq3 (by decide +kernel) rfl), (zm 158 zq3 (by decide +kernel) rfl), (zm 159 zq3 (by decide +kernel) rfl), (zm 2 zq1 (by decide +kernel) rfl), (zm 160 zq3 (by decide +kernel) rfl)⟩, rfl, by decide, by decide, by decide +kernel⟩
theorem cv_B_180 : zCV "BarrierMarks" 180 "BarrierMarks" ⟨"BarrierMarks", "completeMarkAt", "(I)LBarrierMarks$Mark;"⟩ prog_1_method_31_code 3 (some (.object "BarrierMarks$Mark")) 1 := ⟨⟨(zm 152 zq3 (by decide +kernel) rfl), (zm 154 zq3 (by decide +kernel) rfl), (zmp (by decide +kernel) rfl), (zm 1 zq1 (by decide +kernel) rfl), (zm 155 zq3 (by decide +kernel) rfl)⟩, rfl, by decide, by decide, by decide +kernel⟩
theorem th_B_219_87 : zThr "BarrierMarks" 87 219 91 "java/lang/IllegalArgumentException" "what is 0 or 1" := ⟨by decide +kernel, (zm 69 zq2 (by decide +kernel) rfl), (zm 13 zq1 (by decide +kernel) rfl), by decide +kernel, by decide +kernel, tw_B_91, tx_B_91_87⟩
theorem th_B_273_66 : zThr "BarrierMarks" 66 273 70 "java/lang/IllegalStateException" "the task has not kept for the mark" := ⟨by decide +kernel, (zm 221 zq1 (by decide +kernel) rfl), (zm 10 zq1 (by decide +kernel) rfl), by decide +kernel, by decide +kernel, tw_B_70, tx_B_70_66⟩
theorem cv_B_221 : zCV "BarrierMarks" 221 "BarrierMarks" ⟨"BarrierMarks", "markKeptBy", "(II)LBarrierMarks$Mark;"⟩ prog_1_method_32_code 4 (some (.object "BarrierMarks$Mark")) 2 := ⟨⟨(zm 209 zq3 (by decide +kernel) rfl), (zm 211 zq3 (by decide +kernel) rfl), (zmp (by decide +kernel) rfl), (zm 1 zq1 (by decide +kernel) rfl), (zm 212 zq3 (by decide +kernel) rfl)⟩, rfl, by decide, by decide, by decide +kernel⟩
theorem fl_B_225 : ∀ ci ∈ [3], z_fld "BarrierMarks" 225 ci 4 := by
  intro ci h
  simp only [List.mem_cons, List.not_mem_nil, or_false] at h
  subst h
  exact ⟨_, _, _, "BarrierMarks$Mark", rfl, by decide, zi3, (zm 167 zq2 (by decide +kernel) rfl), Or.inl rfl⟩
theorem fl_B_228 : ∀ ci ∈ [3], z_fld "BarrierMarks" 228 ci 5 := by
  intro ci h
  simp only [List.mem_cons, List.not_mem_nil, or_false] at h
  subst h
  exact ⟨_, _, _, "BarrierMarks$Mark", rfl, by decide, zi3, (zm 170 zq2 (by decide +kernel) rfl), Or.inl rfl⟩
theorem th_B_242_240 : zThr "BarrierMarks" 240 242 244 "java/lang/IndexOutOfBoundsException" "the channel is no source" := ⟨by decide +kernel, (zm 153 zq1 (by decide +kernel) rfl), (zm 9 zq1 (by decide +kernel) rfl), by decide +kernel, by decide +kernel, tw_B_244, tx_B_244_240⟩
theorem fl_B_237 : ∀ ci ∈ [1], z_fld "BarrierMarks" 237 ci 5 := by
  intro ci h
  simp only [List.mem_cons, List.not_mem_nil, or_false] at h
  subst h
  exact ⟨_, _, _, "BarrierMarks$Source", rfl, by decide, zi1, (zm 8 zq2 (by decide +kernel) rfl), Or.inl rfl⟩
theorem fl_B_356 : ∀ ci ∈ [1], z_fld "BarrierMarks" 356 ci 6 := by
  intro ci h
  simp only [List.mem_cons, List.not_mem_nil, or_false] at h
  subst h
  exact ⟨_, _, _, "BarrierMarks$Source", rfl, by decide, zi1, (zm 10 zq2 (by decide +kernel) rfl), Or.inl rfl⟩
theorem cv_B_352 : zCV "BarrierMarks" 352 "BarrierMarks" ⟨"BarrierMarks", "carryInto", "(LBarrierMarks$Task;I)V"⟩ prog_1_method_45_code 10 none 2 := ⟨⟨(zm 13 zq4 (by decide +kernel) rfl), (zm 15 zq4 (by decide +kernel) rfl), (zmp (by decide +kernel) rfl), (zm 1 zq1 (by decide +kernel) rfl), (zm 16 zq4 (by decide +kernel) rfl)⟩, rfl, by decide, by decide, by decide +kernel⟩
theorem cv_B_245 : zCV "BarrierMarks" 245 "BarrierMarks" ⟨"BarrierMarks", "carryAlone", "(I)V"⟩ prog_1_method_44_code 4 none 1 := ⟨⟨(zm 9 zq4 (by decide +kernel) rfl), (zm 11 zq4 (by decide +kernel) rfl), (zmp (by decide +kernel) rfl), (zm 1 zq1 (by decide +kernel) rfl), (zm 12 zq4 (by decide +kernel) rfl)⟩, rfl, by decide, by decide, by decide +kernel⟩
theorem io_2 : ∀ cj ∈ [1, 2], ∃ q, zcl[cj]? = some q ∧ ((cj = 2 ∧ (q.1, "BarrierMarks$Line") ∈ zcast) ∨ (cj ≠ 2 ∧ (q.1, "BarrierMarks$Line") ∈ znc)) := by
  intro cj h
  simp only [List.mem_cons, List.not_mem_nil, or_false] at h
  rcases h with rfl | rfl
  · exact ⟨_, rfl, Or.inr ⟨by decide, by decide +kernel⟩⟩
  · exact ⟨_, rfl, Or.inl ⟨rfl, by decide +kernel⟩⟩
theorem th_B_265_240 : zThr "BarrierMarks" 240 265 244 "java/lang/IndexOutOfBoundsException" "a source, or no such thing" := ⟨by decide +kernel, (zm 153 zq1 (by decide +kernel) rfl), (zm 9 zq1 (by decide +kernel) rfl), by decide +kernel, by decide +kernel, tw_B_244, tx_B_244_240⟩
theorem ck_2 : ∀ cj ∈ [2], ∃ q, zcl[cj]? = some q ∧ (q.1, "BarrierMarks$Line") ∈ zcast := by
  intro cj h
  simp only [List.mem_cons, List.not_mem_nil, or_false] at h
  subst h
  exact ⟨_, rfl, by decide +kernel⟩
theorem fl_B_264 : ∀ ci ∈ [2], z_fld "BarrierMarks" 264 ci 6 := by
  intro ci h
  simp only [List.mem_cons, List.not_mem_nil, or_false] at h
  subst h
  exact ⟨_, _, _, "BarrierMarks$Line", rfl, by decide, zi2, (zm 97 zq2 (by decide +kernel) rfl), Or.inl rfl⟩
theorem cv_B_248 : zCV "BarrierMarks" 248 "BarrierMarks" ⟨"BarrierMarks", "lineWith", "(II)LBarrierMarks$Line;"⟩ prog_1_method_28_code 5 (some (.object "BarrierMarks$Line")) 2 := ⟨⟨(zm 38 zq4 (by decide +kernel) rfl), (zm 40 zq4 (by decide +kernel) rfl), (zmp (by decide +kernel) rfl), (zm 1 zq1 (by decide +kernel) rfl), (zm 41 zq4 (by decide +kernel) rfl)⟩, rfl, by decide, by decide, by decide +kernel⟩
theorem fl_B_252 : ∀ ci ∈ [2], z_fld "BarrierMarks" 252 ci 4 := by
  intro ci h
  simp only [List.mem_cons, List.not_mem_nil, or_false] at h
  subst h
  exact ⟨_, _, _, "BarrierMarks$Line", rfl, by decide, zi2, (zm 92 zq2 (by decide +kernel) rfl), Or.inl rfl⟩
theorem fl_B_255 : ∀ ci ∈ [2], z_fld "BarrierMarks" 255 ci 5 := by
  intro ci h
  simp only [List.mem_cons, List.not_mem_nil, or_false] at h
  subst h
  exact ⟨_, _, _, "BarrierMarks$Line", rfl, by decide, zi2, (zm 94 zq2 (by decide +kernel) rfl), Or.inl rfl⟩
theorem th_B_258_87 : zThr "BarrierMarks" 87 258 91 "java/lang/IllegalArgumentException" "what is 0 to 3" := ⟨by decide +kernel, (zm 69 zq2 (by decide +kernel) rfl), (zm 13 zq1 (by decide +kernel) rfl), by decide +kernel, by decide +kernel, tw_B_91, tx_B_91_87⟩
theorem fl_R_54 : ∀ ci ∈ [6], z_fld "BarrierMarksModel" 54 ci 18 := by
  intro ci h
  simp only [List.mem_cons, List.not_mem_nil, or_false] at h
  subst h
  exact ⟨_, _, _, "BarrierMarksModel", rfl, by decide, zi6, (zm 82 zq4 (by decide +kernel) rfl), Or.inl rfl⟩
theorem fl_R_21 : ∀ ci ∈ [6], z_fld "BarrierMarksModel" 21 ci 6 := by
  intro ci h
  simp only [List.mem_cons, List.not_mem_nil, or_false] at h
  subst h
  exact ⟨_, _, _, "BarrierMarksModel", rfl, by decide, zi6, (zm 70 zq4 (by decide +kernel) rfl), Or.inl rfl⟩
theorem fl_R_96 : ∀ ci ∈ [6], z_fld "BarrierMarksModel" 96 ci 0 := by
  intro ci h
  simp only [List.mem_cons, List.not_mem_nil, or_false] at h
  subst h
  exact ⟨_, _, _, "BarrierMarksModel", rfl, by decide, zi6, (zm 64 zq4 (by decide +kernel) rfl), Or.inl rfl⟩
theorem pf_R_96 : ∀ ci ∈ [6], z_fld "BarrierMarksModel" 96 ci 0 ∧ z_wrt ci 0 true "BarrierMarksModel" .int := by
  intro ci h
  refine ⟨fl_R_96 ci h, ?_⟩
  simp only [List.mem_cons, List.not_mem_nil, or_false] at h
  subst h
  exact ⟨_, _, _, zty6, rfl, rfl, fun _ => rfl, by decide +kernel, zt6, zn6⟩
theorem ol_R_1 : Cond.methodLink "BarrierMarksModel" 1 Lib.objectInit ∈ zTs := by decide +kernel
theorem fl_R_7 : ∀ ci ∈ [6], z_fld "BarrierMarksModel" 7 ci 3 := by
  intro ci h
  simp only [List.mem_cons, List.not_mem_nil, or_false] at h
  subst h
  exact ⟨_, _, _, "BarrierMarksModel", rfl, by decide, zi6, (zm 67 zq4 (by decide +kernel) rfl), Or.inl rfl⟩
theorem pf_R_7 : ∀ ci ∈ [6], z_fld "BarrierMarksModel" 7 ci 3 ∧ z_wrt ci 3 true "BarrierMarksModel" (.array .long) := by
  intro ci h
  refine ⟨fl_R_7 ci h, ?_⟩
  simp only [List.mem_cons, List.not_mem_nil, or_false] at h
  subst h
  exact ⟨_, _, _, zty6, rfl, rfl, fun _ => rfl, by decide +kernel, zt6, zn6⟩
theorem fl_R_13 : ∀ ci ∈ [6], z_fld "BarrierMarksModel" 13 ci 4 := by
  intro ci h
  simp only [List.mem_cons, List.not_mem_nil, or_false] at h
  subst h
  exact ⟨_, _, _, "BarrierMarksModel", rfl, by decide, zi6, (zm 68 zq4 (by decide +kernel) rfl), Or.inl rfl⟩
theorem pf_R_13 : ∀ ci ∈ [6], z_fld "BarrierMarksModel" 13 ci 4 ∧ z_wrt ci 4 true "BarrierMarksModel" (.array .int) := by
  intro ci h
  refine ⟨fl_R_13 ci h, ?_⟩
  simp only [List.mem_cons, List.not_mem_nil, or_false] at h
  subst h
  exact ⟨_, _, _, zty6, rfl, rfl, fun _ => rfl, by decide +kernel, zt6, zn6⟩
theorem fl_R_17 : ∀ ci ∈ [6], z_fld "BarrierMarksModel" 17 ci 5 := by
  intro ci h
  simp only [List.mem_cons, List.not_mem_nil, or_false] at h
  subst h
  exact ⟨_, _, _, "BarrierMarksModel", rfl, by decide, zi6, (zm 69 zq4 (by decide +kernel) rfl), Or.inl rfl⟩
theorem pf_R_17 : ∀ ci ∈ [6], z_fld "BarrierMarksModel" 17 ci 5 ∧ z_wrt ci 5 true "BarrierMarksModel" (.array .boolean) := by
  intro ci h
  refine ⟨fl_R_17 ci h, ?_⟩
  simp only [List.mem_cons, List.not_mem_nil, or_false] at h
  subst h
  exact ⟨_, _, _, zty6, rfl, rfl, fun _ => rfl, by decide +kernel, zt6, zn6⟩
theorem pf_R_21 : ∀ ci ∈ [6], z_fld "BarrierMarksModel" 21 ci 6 ∧ z_wrt ci 6 true "BarrierMarksModel" (.array .int) := by
  intro ci h
  refine ⟨fl_R_21 ci h, ?_⟩
  simp only [List.mem_cons, List.not_mem_nil, or_false] at h
  subst h
  exact ⟨_, _, _, zty6, rfl, rfl, fun _ => rfl, by decide +kernel, zt6, zn6⟩
theorem fl_R_24 : ∀ ci ∈ [6], z_fld "BarrierMarksModel" 24 ci 8 := by
  intro ci h
  simp only [List.mem_cons, List.not_mem_nil, or_false] at h
  subst h
  exact ⟨_, _, _, "BarrierMarksModel", rfl, by decide, zi6, (zm 72 zq4 (by decide +kernel) rfl), Or.inl rfl⟩
theorem pf_R_24 : ∀ ci ∈ [6], z_fld "BarrierMarksModel" 24 ci 8 ∧ z_wrt ci 8 true "BarrierMarksModel" (.array .int) := by
  intro ci h
  refine ⟨fl_R_24 ci h, ?_⟩
  simp only [List.mem_cons, List.not_mem_nil, or_false] at h
  subst h
  exact ⟨_, _, _, zty6, rfl, rfl, fun _ => rfl, by decide +kernel, zt6, zn6⟩
theorem fl_R_27 : ∀ ci ∈ [6], z_fld "BarrierMarksModel" 27 ci 9 := by
  intro ci h
  simp only [List.mem_cons, List.not_mem_nil, or_false] at h
  subst h
  exact ⟨_, _, _, "BarrierMarksModel", rfl, by decide, zi6, (zm 73 zq4 (by decide +kernel) rfl), Or.inl rfl⟩
theorem pf_R_27 : ∀ ci ∈ [6], z_fld "BarrierMarksModel" 27 ci 9 ∧ z_wrt ci 9 true "BarrierMarksModel" (.array .int) := by
  intro ci h
  refine ⟨fl_R_27 ci h, ?_⟩
  simp only [List.mem_cons, List.not_mem_nil, or_false] at h
  subst h
  exact ⟨_, _, _, zty6, rfl, rfl, fun _ => rfl, by decide +kernel, zt6, zn6⟩
theorem fl_R_30 : ∀ ci ∈ [6], z_fld "BarrierMarksModel" 30 ci 10 := by
  intro ci h
  simp only [List.mem_cons, List.not_mem_nil, or_false] at h
  subst h
  exact ⟨_, _, _, "BarrierMarksModel", rfl, by decide, zi6, (zm 74 zq4 (by decide +kernel) rfl), Or.inl rfl⟩
theorem pf_R_30 : ∀ ci ∈ [6], z_fld "BarrierMarksModel" 30 ci 10 ∧ z_wrt ci 10 true "BarrierMarksModel" (.array .int) := by
  intro ci h
  refine ⟨fl_R_30 ci h, ?_⟩
  simp only [List.mem_cons, List.not_mem_nil, or_false] at h
  subst h
  exact ⟨_, _, _, zty6, rfl, rfl, fun _ => rfl, by decide +kernel, zt6, zn6⟩
theorem fl_R_33 : ∀ ci ∈ [6], z_fld "BarrierMarksModel" 33 ci 11 := by
  intro ci h
  simp only [List.mem_cons, List.not_mem_nil, or_false] at h
  subst h
  exact ⟨_, _, _, "BarrierMarksModel", rfl, by decide, zi6, (zm 75 zq4 (by decide +kernel) rfl), Or.inl rfl⟩
theorem pf_R_33 : ∀ ci ∈ [6], z_fld "BarrierMarksModel" 33 ci 11 ∧ z_wrt ci 11 true "BarrierMarksModel" (.array .long) := by
  intro ci h
  refine ⟨fl_R_33 ci h, ?_⟩
  simp only [List.mem_cons, List.not_mem_nil, or_false] at h
  subst h
  exact ⟨_, _, _, zty6, rfl, rfl, fun _ => rfl, by decide +kernel, zt6, zn6⟩
theorem fl_R_36 : ∀ ci ∈ [6], z_fld "BarrierMarksModel" 36 ci 12 := by
  intro ci h
  simp only [List.mem_cons, List.not_mem_nil, or_false] at h
  subst h
  exact ⟨_, _, _, "BarrierMarksModel", rfl, by decide, zi6, (zm 76 zq4 (by decide +kernel) rfl), Or.inl rfl⟩
theorem pf_R_36 : ∀ ci ∈ [6], z_fld "BarrierMarksModel" 36 ci 12 ∧ z_wrt ci 12 true "BarrierMarksModel" (.array .int) := by
  intro ci h
  refine ⟨fl_R_36 ci h, ?_⟩
  simp only [List.mem_cons, List.not_mem_nil, or_false] at h
  subst h
  exact ⟨_, _, _, zty6, rfl, rfl, fun _ => rfl, by decide +kernel, zt6, zn6⟩
theorem fl_R_39 : ∀ ci ∈ [6], z_fld "BarrierMarksModel" 39 ci 13 := by
  intro ci h
  simp only [List.mem_cons, List.not_mem_nil, or_false] at h
  subst h
  exact ⟨_, _, _, "BarrierMarksModel", rfl, by decide, zi6, (zm 77 zq4 (by decide +kernel) rfl), Or.inl rfl⟩
theorem pf_R_39 : ∀ ci ∈ [6], z_fld "BarrierMarksModel" 39 ci 13 ∧ z_wrt ci 13 true "BarrierMarksModel" (.array .long) := by
  intro ci h
  refine ⟨fl_R_39 ci h, ?_⟩
  simp only [List.mem_cons, List.not_mem_nil, or_false] at h
  subst h
  exact ⟨_, _, _, zty6, rfl, rfl, fun _ => rfl, by decide +kernel, zt6, zn6⟩
theorem fl_R_42 : ∀ ci ∈ [6], z_fld "BarrierMarksModel" 42 ci 14 := by
  intro ci h
  simp only [List.mem_cons, List.not_mem_nil, or_false] at h
  subst h
  exact ⟨_, _, _, "BarrierMarksModel", rfl, by decide, zi6, (zm 78 zq4 (by decide +kernel) rfl), Or.inl rfl⟩
theorem pf_R_42 : ∀ ci ∈ [6], z_fld "BarrierMarksModel" 42 ci 14 ∧ z_wrt ci 14 true "BarrierMarksModel" (.array .int) := by
  intro ci h
  refine ⟨fl_R_42 ci h, ?_⟩
  simp only [List.mem_cons, List.not_mem_nil, or_false] at h
  subst h
  exact ⟨_, _, _, zty6, rfl, rfl, fun _ => rfl, by decide +kernel, zt6, zn6⟩
theorem fl_R_45 : ∀ ci ∈ [6], z_fld "BarrierMarksModel" 45 ci 15 := by
  intro ci h
  simp only [List.mem_cons, List.not_mem_nil, or_false] at h
  subst h
  exact ⟨_, _, _, "BarrierMarksModel", rfl, by decide, zi6, (zm 79 zq4 (by decide +kernel) rfl), Or.inl rfl⟩
theorem pf_R_45 : ∀ ci ∈ [6], z_fld "BarrierMarksModel" 45 ci 15 ∧ z_wrt ci 15 true "BarrierMarksModel" (.array .boolean) := by
  intro ci h
  refine ⟨fl_R_45 ci h, ?_⟩
  simp only [List.mem_cons, List.not_mem_nil, or_false] at h
  subst h
  exact ⟨_, _, _, zty6, rfl, rfl, fun _ => rfl, by decide +kernel, zt6, zn6⟩
theorem fl_R_48 : ∀ ci ∈ [6], z_fld "BarrierMarksModel" 48 ci 16 := by
  intro ci h
  simp only [List.mem_cons, List.not_mem_nil, or_false] at h
  subst h
  exact ⟨_, _, _, "BarrierMarksModel", rfl, by decide, zi6, (zm 80 zq4 (by decide +kernel) rfl), Or.inl rfl⟩
theorem pf_R_48 : ∀ ci ∈ [6], z_fld "BarrierMarksModel" 48 ci 16 ∧ z_wrt ci 16 true "BarrierMarksModel" (.array .int) := by
  intro ci h
  refine ⟨fl_R_48 ci h, ?_⟩
  simp only [List.mem_cons, List.not_mem_nil, or_false] at h
  subst h
  exact ⟨_, _, _, zty6, rfl, rfl, fun _ => rfl, by decide +kernel, zt6, zn6⟩
theorem fl_R_51 : ∀ ci ∈ [6], z_fld "BarrierMarksModel" 51 ci 17 := by
  intro ci h
  simp only [List.mem_cons, List.not_mem_nil, or_false] at h
  subst h
  exact ⟨_, _, _, "BarrierMarksModel", rfl, by decide, zi6, (zm 81 zq4 (by decide +kernel) rfl), Or.inl rfl⟩
theorem pf_R_51 : ∀ ci ∈ [6], z_fld "BarrierMarksModel" 51 ci 17 ∧ z_wrt ci 17 true "BarrierMarksModel" (.array .boolean) := by
  intro ci h
  refine ⟨fl_R_51 ci h, ?_⟩
  simp only [List.mem_cons, List.not_mem_nil, or_false] at h
  subst h
  exact ⟨_, _, _, zty6, rfl, rfl, fun _ => rfl, by decide +kernel, zt6, zn6⟩
theorem pf_R_54 : ∀ ci ∈ [6], z_fld "BarrierMarksModel" 54 ci 18 ∧ z_wrt ci 18 true "BarrierMarksModel" (.array .int) := by
  intro ci h
  refine ⟨fl_R_54 ci h, ?_⟩
  simp only [List.mem_cons, List.not_mem_nil, or_false] at h
  subst h
  exact ⟨_, _, _, zty6, rfl, rfl, fun _ => rfl, by decide +kernel, zt6, zn6⟩
theorem fl_R_57 : ∀ ci ∈ [6], z_fld "BarrierMarksModel" 57 ci 20 := by
  intro ci h
  simp only [List.mem_cons, List.not_mem_nil, or_false] at h
  subst h
  exact ⟨_, _, _, "BarrierMarksModel", rfl, by decide, zi6, (zm 84 zq4 (by decide +kernel) rfl), Or.inl rfl⟩
theorem pf_R_57 : ∀ ci ∈ [6], z_fld "BarrierMarksModel" 57 ci 20 ∧ z_wrt ci 20 true "BarrierMarksModel" (.array .int) := by
  intro ci h
  refine ⟨fl_R_57 ci h, ?_⟩
  simp only [List.mem_cons, List.not_mem_nil, or_false] at h
  subst h
  exact ⟨_, _, _, zty6, rfl, rfl, fun _ => rfl, by decide +kernel, zt6, zn6⟩
theorem fl_R_60 : ∀ ci ∈ [6], z_fld "BarrierMarksModel" 60 ci 21 := by
  intro ci h
  simp only [List.mem_cons, List.not_mem_nil, or_false] at h
  subst h
  exact ⟨_, _, _, "BarrierMarksModel", rfl, by decide, zi6, (zm 85 zq4 (by decide +kernel) rfl), Or.inl rfl⟩
theorem pf_R_60 : ∀ ci ∈ [6], z_fld "BarrierMarksModel" 60 ci 21 ∧ z_wrt ci 21 true "BarrierMarksModel" (.array .int) := by
  intro ci h
  refine ⟨fl_R_60 ci h, ?_⟩
  simp only [List.mem_cons, List.not_mem_nil, or_false] at h
  subst h
  exact ⟨_, _, _, zty6, rfl, rfl, fun _ => rfl, by decide +kernel, zt6, zn6⟩
theorem fl_R_63 : ∀ ci ∈ [6], z_fld "BarrierMarksModel" 63 ci 22 := by
  intro ci h
  simp only [List.mem_cons, List.not_mem_nil, or_false] at h
  subst h
  exact ⟨_, _, _, "BarrierMarksModel", rfl, by decide, zi6, (zm 86 zq4 (by decide +kernel) rfl), Or.inl rfl⟩
theorem pf_R_63 : ∀ ci ∈ [6], z_fld "BarrierMarksModel" 63 ci 22 ∧ z_wrt ci 22 true "BarrierMarksModel" (.array .boolean) := by
  intro ci h
  refine ⟨fl_R_63 ci h, ?_⟩
  simp only [List.mem_cons, List.not_mem_nil, or_false] at h
  subst h
  exact ⟨_, _, _, zty6, rfl, rfl, fun _ => rfl, by decide +kernel, zt6, zn6⟩
theorem fl_R_66 : ∀ ci ∈ [6], z_fld "BarrierMarksModel" 66 ci 23 := by
  intro ci h
  simp only [List.mem_cons, List.not_mem_nil, or_false] at h
  subst h
  exact ⟨_, _, _, "BarrierMarksModel", rfl, by decide, zi6, (zm 87 zq4 (by decide +kernel) rfl), Or.inl rfl⟩
theorem pf_R_66 : ∀ ci ∈ [6], z_fld "BarrierMarksModel" 66 ci 23 ∧ z_wrt ci 23 true "BarrierMarksModel" (.array .boolean) := by
  intro ci h
  refine ⟨fl_R_66 ci h, ?_⟩
  simp only [List.mem_cons, List.not_mem_nil, or_false] at h
  subst h
  exact ⟨_, _, _, zty6, rfl, rfl, fun _ => rfl, by decide +kernel, zt6, zn6⟩
theorem fl_R_69 : ∀ ci ∈ [6], z_fld "BarrierMarksModel" 69 ci 24 := by
  intro ci h
  simp only [List.mem_cons, List.not_mem_nil, or_false] at h
  subst h
  exact ⟨_, _, _, "BarrierMarksModel", rfl, by decide, zi6, (zm 88 zq4 (by decide +kernel) rfl), Or.inl rfl⟩
theorem pf_R_69 : ∀ ci ∈ [6], z_fld "BarrierMarksModel" 69 ci 24 ∧ z_wrt ci 24 true "BarrierMarksModel" (.array .boolean) := by
  intro ci h
  refine ⟨fl_R_69 ci h, ?_⟩
  simp only [List.mem_cons, List.not_mem_nil, or_false] at h
  subst h
  exact ⟨_, _, _, zty6, rfl, rfl, fun _ => rfl, by decide +kernel, zt6, zn6⟩
theorem fl_R_72 : ∀ ci ∈ [6], z_fld "BarrierMarksModel" 72 ci 25 := by
  intro ci h
  simp only [List.mem_cons, List.not_mem_nil, or_false] at h
  subst h
  exact ⟨_, _, _, "BarrierMarksModel", rfl, by decide, zi6, (zm 89 zq4 (by decide +kernel) rfl), Or.inl rfl⟩
theorem pf_R_72 : ∀ ci ∈ [6], z_fld "BarrierMarksModel" 72 ci 25 ∧ z_wrt ci 25 true "BarrierMarksModel" (.array .long) := by
  intro ci h
  refine ⟨fl_R_72 ci h, ?_⟩
  simp only [List.mem_cons, List.not_mem_nil, or_false] at h
  subst h
  exact ⟨_, _, _, zty6, rfl, rfl, fun _ => rfl, by decide +kernel, zt6, zn6⟩
theorem fl_R_75 : ∀ ci ∈ [6], z_fld "BarrierMarksModel" 75 ci 26 := by
  intro ci h
  simp only [List.mem_cons, List.not_mem_nil, or_false] at h
  subst h
  exact ⟨_, _, _, "BarrierMarksModel", rfl, by decide, zi6, (zm 90 zq4 (by decide +kernel) rfl), Or.inl rfl⟩
theorem pf_R_75 : ∀ ci ∈ [6], z_fld "BarrierMarksModel" 75 ci 26 ∧ z_wrt ci 26 true "BarrierMarksModel" (.array .int) := by
  intro ci h
  refine ⟨fl_R_75 ci h, ?_⟩
  simp only [List.mem_cons, List.not_mem_nil, or_false] at h
  subst h
  exact ⟨_, _, _, zty6, rfl, rfl, fun _ => rfl, by decide +kernel, zt6, zn6⟩
theorem fl_R_78 : ∀ ci ∈ [6], z_fld "BarrierMarksModel" 78 ci 27 := by
  intro ci h
  simp only [List.mem_cons, List.not_mem_nil, or_false] at h
  subst h
  exact ⟨_, _, _, "BarrierMarksModel", rfl, by decide, zi6, (zm 91 zq4 (by decide +kernel) rfl), Or.inl rfl⟩
theorem pf_R_78 : ∀ ci ∈ [6], z_fld "BarrierMarksModel" 78 ci 27 ∧ z_wrt ci 27 true "BarrierMarksModel" (.array .boolean) := by
  intro ci h
  refine ⟨fl_R_78 ci h, ?_⟩
  simp only [List.mem_cons, List.not_mem_nil, or_false] at h
  subst h
  exact ⟨_, _, _, zty6, rfl, rfl, fun _ => rfl, by decide +kernel, zt6, zn6⟩
theorem fl_R_81 : ∀ ci ∈ [6], z_fld "BarrierMarksModel" 81 ci 28 := by
  intro ci h
  simp only [List.mem_cons, List.not_mem_nil, or_false] at h
  subst h
  exact ⟨_, _, _, "BarrierMarksModel", rfl, by decide, zi6, (zm 92 zq4 (by decide +kernel) rfl), Or.inl rfl⟩
theorem pf_R_81 : ∀ ci ∈ [6], z_fld "BarrierMarksModel" 81 ci 28 ∧ z_wrt ci 28 true "BarrierMarksModel" (.array .boolean) := by
  intro ci h
  refine ⟨fl_R_81 ci h, ?_⟩
  simp only [List.mem_cons, List.not_mem_nil, or_false] at h
  subst h
  exact ⟨_, _, _, zty6, rfl, rfl, fun _ => rfl, by decide +kernel, zt6, zn6⟩
theorem fl_R_84 : ∀ ci ∈ [6], z_fld "BarrierMarksModel" 84 ci 30 := by
  intro ci h
  simp only [List.mem_cons, List.not_mem_nil, or_false] at h
  subst h
  exact ⟨_, _, _, "BarrierMarksModel", rfl, by decide, zi6, (zm 94 zq4 (by decide +kernel) rfl), Or.inl rfl⟩
theorem pf_R_84 : ∀ ci ∈ [6], z_fld "BarrierMarksModel" 84 ci 30 ∧ z_wrt ci 30 true "BarrierMarksModel" (.array .int) := by
  intro ci h
  refine ⟨fl_R_84 ci h, ?_⟩
  simp only [List.mem_cons, List.not_mem_nil, or_false] at h
  subst h
  exact ⟨_, _, _, zty6, rfl, rfl, fun _ => rfl, by decide +kernel, zt6, zn6⟩
theorem fl_R_87 : ∀ ci ∈ [6], z_fld "BarrierMarksModel" 87 ci 31 := by
  intro ci h
  simp only [List.mem_cons, List.not_mem_nil, or_false] at h
  subst h
  exact ⟨_, _, _, "BarrierMarksModel", rfl, by decide, zi6, (zm 95 zq4 (by decide +kernel) rfl), Or.inl rfl⟩
theorem pf_R_87 : ∀ ci ∈ [6], z_fld "BarrierMarksModel" 87 ci 31 ∧ z_wrt ci 31 true "BarrierMarksModel" (.array .int) := by
  intro ci h
  refine ⟨fl_R_87 ci h, ?_⟩
  simp only [List.mem_cons, List.not_mem_nil, or_false] at h
  subst h
  exact ⟨_, _, _, zty6, rfl, rfl, fun _ => rfl, by decide +kernel, zt6, zn6⟩
theorem fl_R_90 : ∀ ci ∈ [6], z_fld "BarrierMarksModel" 90 ci 32 := by
  intro ci h
  simp only [List.mem_cons, List.not_mem_nil, or_false] at h
  subst h
  exact ⟨_, _, _, "BarrierMarksModel", rfl, by decide, zi6, (zm 96 zq4 (by decide +kernel) rfl), Or.inl rfl⟩
theorem pf_R_90 : ∀ ci ∈ [6], z_fld "BarrierMarksModel" 90 ci 32 ∧ z_wrt ci 32 true "BarrierMarksModel" (.array .long) := by
  intro ci h
  refine ⟨fl_R_90 ci h, ?_⟩
  simp only [List.mem_cons, List.not_mem_nil, or_false] at h
  subst h
  exact ⟨_, _, _, zty6, rfl, rfl, fun _ => rfl, by decide +kernel, zt6, zn6⟩
theorem fl_R_93 : ∀ ci ∈ [6], z_fld "BarrierMarksModel" 93 ci 33 := by
  intro ci h
  simp only [List.mem_cons, List.not_mem_nil, or_false] at h
  subst h
  exact ⟨_, _, _, "BarrierMarksModel", rfl, by decide, zi6, (zm 97 zq4 (by decide +kernel) rfl), Or.inl rfl⟩
theorem pf_R_93 : ∀ ci ∈ [6], z_fld "BarrierMarksModel" 93 ci 33 ∧ z_wrt ci 33 true "BarrierMarksModel" (.array .long) := by
  intro ci h
  refine ⟨fl_R_93 ci h, ?_⟩
  simp only [List.mem_cons, List.not_mem_nil, or_false] at h
  subst h
  exact ⟨_, _, _, zty6, rfl, rfl, fun _ => rfl, by decide +kernel, zt6, zn6⟩
theorem fl_R_100 : ∀ ci ∈ [6], z_fld "BarrierMarksModel" 100 ci 1 := by
  intro ci h
  simp only [List.mem_cons, List.not_mem_nil, or_false] at h
  subst h
  exact ⟨_, _, _, "BarrierMarksModel", rfl, by decide, zi6, (zm 65 zq4 (by decide +kernel) rfl), Or.inl rfl⟩
theorem fl_R_103 : ∀ ci ∈ [6], z_fld "BarrierMarksModel" 103 ci 7 := by
  intro ci h
  simp only [List.mem_cons, List.not_mem_nil, or_false] at h
  subst h
  exact ⟨_, _, _, "BarrierMarksModel", rfl, by decide, zi6, (zm 71 zq4 (by decide +kernel) rfl), Or.inl rfl⟩
theorem pf_R_100 : ∀ ci ∈ [6], z_fld "BarrierMarksModel" 100 ci 1 ∧ z_wrt ci 1 false "BarrierMarksModel" .int := by
  intro ci h
  refine ⟨fl_R_100 ci h, ?_⟩
  simp only [List.mem_cons, List.not_mem_nil, or_false] at h
  subst h
  exact ⟨_, _, _, zty6, rfl, rfl, fun h => absurd h (by decide), by decide +kernel, zt6, zn6⟩
theorem pf_R_103 : ∀ ci ∈ [6], z_fld "BarrierMarksModel" 103 ci 7 ∧ z_wrt ci 7 false "BarrierMarksModel" .int := by
  intro ci h
  refine ⟨fl_R_103 ci h, ?_⟩
  simp only [List.mem_cons, List.not_mem_nil, or_false] at h
  subst h
  exact ⟨_, _, _, zty6, rfl, rfl, fun h => absurd h (by decide), by decide +kernel, zt6, zn6⟩
theorem cv_R_109 : zCV "BarrierMarksModel" 109 "BarrierMarksModel" ⟨"BarrierMarksModel", "isTask", "(I)Z"⟩ prog_9_method_3_code 2 (some .boolean) 1 := ⟨⟨(zm 175 zq4 (by decide +kernel) rfl), (zm 177 zq4 (by decide +kernel) rfl), (zmp (by decide +kernel) rfl), (zm 5 zq1 (by decide +kernel) rfl), (zm 178 zq4 (by decide +kernel) rfl)⟩, rfl, by decide, by decide, by decide +kernel⟩
theorem fl_R_113 : ∀ ci ∈ [6], z_fld "BarrierMarksModel" 113 ci 2 := by
  intro ci h
  simp only [List.mem_cons, List.not_mem_nil, or_false] at h
  subst h
  exact ⟨_, _, _, "BarrierMarksModel", rfl, by decide, zi6, (zm 66 zq4 (by decide +kernel) rfl), Or.inl rfl⟩
theorem cv_R_117 : zCV "BarrierMarksModel" 117 "BarrierMarksModel" ⟨"BarrierMarksModel", "reached", "(I)I"⟩ prog_9_method_8_code 5 (some .int) 1 := ⟨⟨(zm 179 zq4 (by decide +kernel) rfl), (zm 181 zq4 (by decide +kernel) rfl), (zmp (by decide +kernel) rfl), (zm 5 zq1 (by decide +kernel) rfl), (zm 182 zq4 (by decide +kernel) rfl)⟩, rfl, by decide, by decide, by decide +kernel⟩
theorem cv_R_121 : zCV "BarrierMarksModel" 121 "BarrierMarksModel" ⟨"BarrierMarksModel", "hasInto", "(I)Z"⟩ prog_9_method_7_code 4 (some .boolean) 1 := ⟨⟨(zm 183 zq4 (by decide +kernel) rfl), (zm 185 zq4 (by decide +kernel) rfl), (zmp (by decide +kernel) rfl), (zm 5 zq1 (by decide +kernel) rfl), (zm 186 zq4 (by decide +kernel) rfl)⟩, rfl, by decide, by decide, by decide +kernel⟩
theorem pf_R_113 : ∀ ci ∈ [6], z_fld "BarrierMarksModel" 113 ci 2 ∧ z_wrt ci 2 false "BarrierMarksModel" .boolean := by
  intro ci h
  refine ⟨fl_R_113 ci h, ?_⟩
  simp only [List.mem_cons, List.not_mem_nil, or_false] at h
  subst h
  exact ⟨_, _, _, zty6, rfl, rfl, fun h => absurd h (by decide), by decide +kernel, zt6, zn6⟩
theorem cv_R_124 : zCV "BarrierMarksModel" 124 "BarrierMarksModel" ⟨"BarrierMarksModel", "isChannel", "(I)Z"⟩ prog_9_method_4_code 2 (some .boolean) 1 := ⟨⟨(zm 191 zq4 (by decide +kernel) rfl), (zm 193 zq4 (by decide +kernel) rfl), (zmp (by decide +kernel) rfl), (zm 5 zq1 (by decide +kernel) rfl), (zm 194 zq4 (by decide +kernel) rfl)⟩, rfl, by decide, by decide, by decide +kernel⟩
theorem cv_R_127 : zCV "BarrierMarksModel" 127 "BarrierMarksModel" ⟨"BarrierMarksModel", "isSource", "(I)Z"⟩ prog_9_method_6_code 2 (some .boolean) 1 := ⟨⟨(zm 195 zq4 (by decide +kernel) rfl), (zm 197 zq4 (by decide +kernel) rfl), (zmp (by decide +kernel) rfl), (zm 5 zq1 (by decide +kernel) rfl), (zm 198 zq4 (by decide +kernel) rfl)⟩, rfl, by decide, by decide, by decide +kernel⟩
theorem fl_R_106 : ∀ ci ∈ [6], z_fld "BarrierMarksModel" 106 ci 19 := by
  intro ci h
  simp only [List.mem_cons, List.not_mem_nil, or_false] at h
  subst h
  exact ⟨_, _, _, "BarrierMarksModel", rfl, by decide, zi6, (zm 83 zq4 (by decide +kernel) rfl), Or.inl rfl⟩
theorem fl_R_138 : ∀ ci ∈ [6], z_fld "BarrierMarksModel" 138 ci 29 := by
  intro ci h
  simp only [List.mem_cons, List.not_mem_nil, or_false] at h
  subst h
  exact ⟨_, _, _, "BarrierMarksModel", rfl, by decide, zi6, (zm 93 zq4 (by decide +kernel) rfl), Or.inl rfl⟩
theorem pf_R_138 : ∀ ci ∈ [6], z_fld "BarrierMarksModel" 138 ci 29 ∧ z_wrt ci 29 false "BarrierMarksModel" .int := by
  intro ci h
  refine ⟨fl_R_138 ci h, ?_⟩
  simp only [List.mem_cons, List.not_mem_nil, or_false] at h
  subst h
  exact ⟨_, _, _, zty6, rfl, rfl, fun h => absurd h (by decide), by decide +kernel, zt6, zn6⟩
theorem cv_R_141 : zCV "BarrierMarksModel" 141 "BarrierMarksModel" ⟨"BarrierMarksModel", "sent", "(II)V"⟩ prog_9_method_14_code 3 none 2 := ⟨⟨(zm 215 zq4 (by decide +kernel) rfl), (zm 217 zq4 (by decide +kernel) rfl), (zmp (by decide +kernel) rfl), (zm 5 zq1 (by decide +kernel) rfl), (zm 218 zq4 (by decide +kernel) rfl)⟩, rfl, by decide, by decide, by decide +kernel⟩
theorem cv_R_134 : zCV "BarrierMarksModel" 134 "BarrierMarksModel" ⟨"BarrierMarksModel", "keep", "(II)V"⟩ prog_9_method_15_code 3 none 2 := ⟨⟨(zm 211 zq4 (by decide +kernel) rfl), (zm 213 zq4 (by decide +kernel) rfl), (zmp (by decide +kernel) rfl), (zm 5 zq1 (by decide +kernel) rfl), (zm 214 zq4 (by decide +kernel) rfl)⟩, rfl, by decide, by decide, by decide +kernel⟩
theorem pf_R_106 : ∀ ci ∈ [6], z_fld "BarrierMarksModel" 106 ci 19 ∧ z_wrt ci 19 false "BarrierMarksModel" .int := by
  intro ci h
  refine ⟨fl_R_106 ci h, ?_⟩
  simp only [List.mem_cons, List.not_mem_nil, or_false] at h
  subst h
  exact ⟨_, _, _, zty6, rfl, rfl, fun h => absurd h (by decide), by decide +kernel, zt6, zn6⟩
theorem cv_R_130 : zCV "BarrierMarksModel" 130 "BarrierMarksModel" ⟨"BarrierMarksModel", "begun", "()I"⟩ prog_9_method_12_code 3 (some .int) 0 := ⟨⟨(zm 207 zq4 (by decide +kernel) rfl), (zm 209 zq4 (by decide +kernel) rfl), (zmp (by decide +kernel) rfl), (zm 5 zq1 (by decide +kernel) rfl), (zm 210 zq4 (by decide +kernel) rfl)⟩, rfl, by decide, by decide, by decide +kernel⟩
theorem cv_R_144 : zCV "BarrierMarksModel" 144 "BarrierMarksModel" ⟨"BarrierMarksModel", "gone", "(II)V"⟩ prog_9_method_16_code 4 none 2 := ⟨⟨(zm 235 zq4 (by decide +kernel) rfl), (zm 237 zq4 (by decide +kernel) rfl), (zmp (by decide +kernel) rfl), (zm 5 zq1 (by decide +kernel) rfl), (zm 238 zq4 (by decide +kernel) rfl)⟩, rfl, by decide, by decide, by decide +kernel⟩
theorem cv_R_159 : zCV "BarrierMarksModel" 159 "BarrierMarksModel" ⟨"BarrierMarksModel", "close", "(II)V"⟩ prog_9_method_17_code 5 none 2 := ⟨⟨(zm 231 zq4 (by decide +kernel) rfl), (zm 233 zq4 (by decide +kernel) rfl), (zmp (by decide +kernel) rfl), (zm 5 zq1 (by decide +kernel) rfl), (zm 234 zq4 (by decide +kernel) rfl)⟩, rfl, by decide, by decide, by decide +kernel⟩
theorem cv_R_156 : zCV "BarrierMarksModel" 156 "BarrierMarksModel" ⟨"BarrierMarksModel", "count", "(I)I"⟩ prog_9_method_27_code 4 (some .int) 1 := ⟨⟨(zm 227 zq4 (by decide +kernel) rfl), (zm 229 zq4 (by decide +kernel) rfl), (zmp (by decide +kernel) rfl), (zm 5 zq1 (by decide +kernel) rfl), (zm 230 zq4 (by decide +kernel) rfl)⟩, rfl, by decide, by decide, by decide +kernel⟩
theorem cv_R_147 : zCV "BarrierMarksModel" 147 "BarrierMarksModel" ⟨"BarrierMarksModel", "barrierOf", "(I)I"⟩ prog_9_method_20_code 3 (some .int) 1 := ⟨⟨(zm 15 zq5 (by decide +kernel) rfl), (zm 17 zq5 (by decide +kernel) rfl), (zmp (by decide +kernel) rfl), (zm 5 zq1 (by decide +kernel) rfl), (zm 18 zq5 (by decide +kernel) rfl)⟩, rfl, by decide, by decide, by decide +kernel⟩
theorem kl_R_176 : Cond.constantLong "BarrierMarksModel" 176 3 ∈ zTs := (zm 23 zq5 (by decide +kernel) rfl)
theorem cv_R_165 : zCV "BarrierMarksModel" 165 "BarrierMarksModel" ⟨"BarrierMarksModel", "give", "(IIJ)V"⟩ prog_9_method_19_code 6 none 3 := ⟨⟨(zm 7 zq5 (by decide +kernel) rfl), (zm 9 zq5 (by decide +kernel) rfl), (zmp (by decide +kernel) rfl), (zm 5 zq1 (by decide +kernel) rfl), (zm 10 zq5 (by decide +kernel) rfl)⟩, rfl, by decide, by decide, by decide +kernel⟩
theorem cv_R_169 : zCV "BarrierMarksModel" 169 "BarrierMarksModel" ⟨"BarrierMarksModel", "next", "(I)I"⟩ prog_9_method_21_code 2 (some .int) 1 := ⟨⟨(zm 11 zq5 (by decide +kernel) rfl), (zm 13 zq5 (by decide +kernel) rfl), (zmp (by decide +kernel) rfl), (zm 5 zq1 (by decide +kernel) rfl), (zm 14 zq5 (by decide +kernel) rfl)⟩, rfl, by decide, by decide, by decide +kernel⟩
theorem cv_R_162 : zCV "BarrierMarksModel" 162 "BarrierMarksModel" ⟨"BarrierMarksModel", "hasCredit", "(I)Z"⟩ prog_9_method_18_code 4 (some .boolean) 1 := ⟨⟨(zm 3 zq5 (by decide +kernel) rfl), (zm 5 zq5 (by decide +kernel) rfl), (zmp (by decide +kernel) rfl), (zm 5 zq1 (by decide +kernel) rfl), (zm 6 zq5 (by decide +kernel) rfl)⟩, rfl, by decide, by decide, by decide +kernel⟩
theorem cv_R_172 : zCV "BarrierMarksModel" 172 "BarrierMarksModel" ⟨"BarrierMarksModel", "take", "(II)I"⟩ prog_9_method_25_code 7 (some .int) 2 := ⟨⟨(zm 19 zq5 (by decide +kernel) rfl), (zm 21 zq5 (by decide +kernel) rfl), (zmp (by decide +kernel) rfl), (zm 5 zq1 (by decide +kernel) rfl), (zm 22 zq5 (by decide +kernel) rfl)⟩, rfl, by decide, by decide, by decide +kernel⟩
theorem cv_R_153 : zCV "BarrierMarksModel" 153 "BarrierMarksModel" ⟨"BarrierMarksModel", "go", "(I)I"⟩ prog_9_method_24_code 6 (some .int) 1 := ⟨⟨(zm 239 zq4 (by decide +kernel) rfl), (zm 1 zq5 (by decide +kernel) rfl), (zmp (by decide +kernel) rfl), (zm 5 zq1 (by decide +kernel) rfl), (zm 2 zq5 (by decide +kernel) rfl)⟩, rfl, by decide, by decide, by decide +kernel⟩
theorem cv_R_150 : zCV "BarrierMarksModel" 150 "BarrierMarksModel" ⟨"BarrierMarksModel", "keeper", "()I"⟩ prog_9_method_23_code 4 (some .int) 0 := ⟨⟨(zm 223 zq4 (by decide +kernel) rfl), (zm 225 zq4 (by decide +kernel) rfl), (zmp (by decide +kernel) rfl), (zm 5 zq1 (by decide +kernel) rfl), (zm 226 zq4 (by decide +kernel) rfl)⟩, rfl, by decide, by decide, by decide +kernel⟩
theorem kl_R_178 : Cond.constantLong "BarrierMarksModel" 178 6364136223846793005 ∈ zTs := (zm 28 zq5 (by decide +kernel) rfl)
theorem kl_R_180 : Cond.constantLong "BarrierMarksModel" 180 1442695040888963407 ∈ zTs := (zm 29 zq5 (by decide +kernel) rfl)
theorem cv_R_182 : zCV "BarrierMarksModel" 182 "BarrierMarksModel" ⟨"BarrierMarksModel", "isMark", "(I)Z"⟩ prog_9_method_5_code 2 (some .boolean) 1 := ⟨⟨(zm 34 zq5 (by decide +kernel) rfl), (zm 36 zq5 (by decide +kernel) rfl), (zmp (by decide +kernel) rfl), (zm 5 zq1 (by decide +kernel) rfl), (zm 37 zq5 (by decide +kernel) rfl)⟩, rfl, by decide, by decide, by decide +kernel⟩
theorem cv_R_185 : zCV "BarrierMarksModel" 185 "BarrierMarksModel" ⟨"BarrierMarksModel", "carried", "(II)V"⟩ prog_9_method_40_code 9 none 2 := ⟨⟨(zm 82 zq5 (by decide +kernel) rfl), (zm 84 zq5 (by decide +kernel) rfl), (zmp (by decide +kernel) rfl), (zm 5 zq1 (by decide +kernel) rfl), (zm 85 zq5 (by decide +kernel) rfl)⟩, rfl, by decide, by decide, by decide +kernel⟩
theorem cv_R_188 : zCV "BarrierMarksModel" 188 "BarrierMarksModel" ⟨"BarrierMarksModel", "isThing", "(II)Z"⟩ prog_9_method_43_code 3 (some .boolean) 2 := ⟨⟨(zm 98 zq5 (by decide +kernel) rfl), (zm 100 zq5 (by decide +kernel) rfl), (zmp (by decide +kernel) rfl), (zm 5 zq1 (by decide +kernel) rfl), (zm 101 zq5 (by decide +kernel) rfl)⟩, rfl, by decide, by decide, by decide +kernel⟩
