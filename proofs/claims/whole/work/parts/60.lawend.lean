/-! THE LAW'S LOOP AND ENTRY, over what the pure part owes (LOk Inv) -/
def lcC (j : Nat) : Nat := 1000 + 8 * j
def lcS (j : Nat) : Nat := 30000 + 302 * j
section GF
variable {x : gX} {A : Nat → Prop} {Q : State → Prop} {cc : ByteArray} {own : String} {nL F L MC MS : Nat} {cells slots : Nat} {V : zV} {n pc : Nat} {lv lv' : List (Nat × Value)} {st : List Value}
theorem g_filter (p : Nat × Value → Bool) (hp : lv.filter p = lv') (k9 : gZ x A Q nL cells slots V n pc lv' st) : gZ x A Q nL cells slots V n pc lv st := by
  obtain ⟨pr, l, e, R, s, m, args, below, meth, c, D, dA⟩ := x
  exact fun H locs ls h hl => k9 H locs ls h ⟨hl.1, hl.2.1, fun q hq => hl.2.2 q (by rw [← hp] at hq; exact (List.mem_filter.mp hq).1)⟩
end GF
theorem l_gt {Ln j : Nat} (hL : Ln ≤ 2049) (h : ¬ (nI Ln - 4 < nI (1 + 4 * j))) (hj : 4 * j ≤ Ln) : 5 + 4 * j ≤ Ln := by
  have e1 : (nI Ln - nI 4).toInt = (Ln : Int) - 4 := pk_sub_toInt (by omega) (by omega)
  have e2 : (nI (1 + 4 * j)).toInt = ((1 + 4 * j : Nat) : Int) := nI_toInt (by omega)
  rw [Int32.lt_iff_toInt_lt] at h
  have e3 : (4 : Int32) = nI 4 := rfl
  rw [e3, e1, e2] at h
  omega
set_option maxHeartbeats 4000000 in
set_option maxRecDepth 100000 in
theorem law_loop {x : gX} {Inv : LI} {b Ln : Nat} {xs : Nat → Int32} {sz : Nat} {Q : State → Prop} (C : gC x (fun q => sz ≤ q) code "BarrierMarksLaw" 8 12 444 601024 7292999) (S : gS x (fun q => sz ≤ q) b Ln xs) (hNN : match x with | (_, _, _, _, s, _, _, _, _, _, _, _) => hN s) (hL : Ln ≤ 2049) (H : LSteps Inv) (kret : ∀ (V : zV) (n cells slots : Nat) (lv : List (Nat × Value)), cells ≤ 601024 → slots ≤ 7292999 → gZ x (fun q => sz ≤ q) Q 8 cells slots V n 1618 lv []) :
    ∀ (f j : Nat) (V : zV) (n q m o : Nat) (i : Int32), i = nI (1 + 4 * j) → 4 * j ≤ Ln → Ln + 4 ≤ 4 * j + 4 * f → Inv V n q m o → gZ x (fun q => sz ≤ q) Q 8 (lcC j) (lcS j) V n 33 [(0, .ref b), (1, .ref q), (2, .ref m), (3, .ref o), (4, .int i)] [] := by
  intro f
  induction f with
  | zero =>
    intro j V n q m o i _ h1 h2
    omega
  | succ f ih =>
    intro j V n q m o i hi hj hf hInv
    refine g_iload C 4 dL_33 rfl ?_
    refine g_aload_n C 0 dL_35 rfl rfl ?_
    refine g_slen C S dL_36 ?_
    refine g_iconst (v := 4) C dL_37 (by decide) ?_
    refine g_isub C dL_38 ?_
    refine g_icmp_gt C 1618 dL_39 (by decide) (fun _ => kret _ _ _ _ _ (by unfold lcC; omega) (by unfold lcS; omega)) (fun hng => ?_)
    rw [hi] at hng
    have h5 := l_gt hL hng hj
    have hin : ∀ c : Nat, c ≤ 3 → vp_in (i + nI c) Ln := fun c hc => by rw [hi, nI_add]; exact vp_in_nI (by omega) (by omega)
    have hin0 : vp_in i Ln := by rw [hi]; exact vp_in_nI (by omega) (by omega)
    have kend : ∀ (V2 : zV) (n2 : Nat) (lv : List (Nat × Value)), lv.filter (fun z => z.1 < 5) = [(0, .ref b), (1, .ref q), (2, .ref m), (3, .ref o), (4, .int i)] → Inv V2 n2 q m o → gZ x (fun q => sz ≤ q) Q 8 (lcC (j + 1)) (lcS (j + 1)) V2 n2 1612 lv [] := by
      intro V2 n2 lv hlv hI2
      refine g_filter _ hlv ?_
      refine g_iinc (lv' := [(4, .int (i + 4)), (0, .ref b), (1, .ref q), (2, .ref m), (3, .ref o)]) C 4 dL_1612 rfl rfl (by decide) rfl ?_
      refine g_goto C 33 dL_1615 (by decide) ?_
      refine g_sub [1, 2, 3, 4, 0] rfl ?_
      exact ih (j + 1) V2 n2 q m o (i + 4) (by rw [hi, show (4 : Int32) = nI 4 from rfl, nI_add]; congr 1) (by omega) (by omega) hI2
    refine g_aload_n C 0 dL_42 rfl rfl ?_
    refine g_iload C 4 dL_43 rfl ?_
    refine g_sld C S hin0 dL_45 ?_
    refine g_bipush (v := 31) C dL_46 (by decide) ?_
    refine g_iand C dL_48 ?_
    have b1 : lcC j + 8 ≤ lcC (j + 1) := by unfold lcC; omega
    have b2 : lcS j + 302 ≤ lcS (j + 1) := by unfold lcS; omega
    have b3 : lcC (j + 1) ≤ 601024 := by unfold lcC; omega
    have b4 : lcS (j + 1) ≤ 7292999 := by unfold lcS; omega
    refine g_tsw (N := 23) C rfl (by decide) dL_49 1612 (by decide) (fun i => match i with | 0 => 156 | 1 => 224 | 2 => 324 | 3 => 380 | 4 => 424 | 5 => 480 | 6 => 580 | 7 => 636 | 8 => 684 | 9 => 752 | 10 => 808 | 11 => 863 | 12 => 931 | 13 => 998 | 14 => 1066 | 15 => 1134 | 16 => 1190 | 17 => 1246 | 18 => 1309 | 19 => 1365 | 20 => 1421 | 21 => 1489 | _ => 1556) (fun k hk => by rcases (show k = 0 ∨ k = 1 ∨ k = 2 ∨ k = 3 ∨ k = 4 ∨ k = 5 ∨ k = 6 ∨ k = 7 ∨ k = 8 ∨ k = 9 ∨ k = 10 ∨ k = 11 ∨ k = 12 ∨ k = 13 ∨ k = 14 ∨ k = 15 ∨ k = 16 ∨ k = 17 ∨ k = 18 ∨ k = 19 ∨ k = 20 ∨ k = 21 ∨ k = 22 by omega) with rfl | rfl | rfl | rfl | rfl | rfl | rfl | rfl | rfl | rfl | rfl | rfl | rfl | rfl | rfl | rfl | rfl | rfl | rfl | rfl | rfl | rfl | rfl <;> exact ⟨_, rfl, by decide⟩) (g_widen (by omega) (by omega) (kend V n _ rfl hInv)) (fun k hk hv => ?_)
    rcases (show k = 0 ∨ k = 1 ∨ k = 2 ∨ k = 3 ∨ k = 4 ∨ k = 5 ∨ k = 6 ∨ k = 7 ∨ k = 8 ∨ k = 9 ∨ k = 10 ∨ k = 11 ∨ k = 12 ∨ k = 13 ∨ k = 14 ∨ k = 15 ∨ k = 16 ∨ k = 17 ∨ k = 18 ∨ k = 19 ∨ k = 20 ∨ k = 21 ∨ k = 22 by omega) with rfl | rfl | rfl | rfl | rfl | rfl | rfl | rfl | rfl | rfl | rfl | rfl | rfl | rfl | rfl | rfl | rfl | rfl | rfl | rfl | rfl | rfl | rfl
    · exact law_0 C S hNN H.1 hInv b1 b2 b3 b4 (hin 1 (by decide)) (hin 2 (by decide)) (hin 3 (by decide)) kend
    · exact law_1 C S hNN H.2.1 hInv b1 b2 b3 b4 (hin 1 (by decide)) (hin 2 (by decide)) (hin 3 (by decide)) kend
    · exact law_2 C S hNN H.2.2.1 hInv b1 b2 b3 b4 (hin 1 (by decide)) (hin 2 (by decide)) (hin 3 (by decide)) kend
    · exact law_3 C S hNN H.2.2.2.1 hInv b1 b2 b3 b4 (hin 1 (by decide)) (hin 2 (by decide)) (hin 3 (by decide)) kend
    · exact law_4 C S hNN H.2.2.2.2.1 hInv b1 b2 b3 b4 (hin 1 (by decide)) (hin 2 (by decide)) (hin 3 (by decide)) kend
    · exact law_5 C S hNN H.2.2.2.2.2.1 hInv b1 b2 b3 b4 (hin 1 (by decide)) (hin 2 (by decide)) (hin 3 (by decide)) kend
    · exact law_6 C S hNN H.2.2.2.2.2.2.1 hInv b1 b2 b3 b4 (hin 1 (by decide)) (hin 2 (by decide)) (hin 3 (by decide)) kend
    · exact law_7 C S hNN H.2.2.2.2.2.2.2.1 hInv b1 b2 b3 b4 (hin 1 (by decide)) (hin 2 (by decide)) (hin 3 (by decide)) kend
    · exact law_8 C S hNN H.2.2.2.2.2.2.2.2.1 hInv b1 b2 b3 b4 (hin 1 (by decide)) (hin 2 (by decide)) (hin 3 (by decide)) kend
    · exact law_9 C S hNN H.2.2.2.2.2.2.2.2.2.1 hInv b1 b2 b3 b4 (hin 1 (by decide)) (hin 2 (by decide)) (hin 3 (by decide)) kend
    · exact law_10 C S hNN H.2.2.2.2.2.2.2.2.2.2.1 hInv b1 b2 b3 b4 (hin 1 (by decide)) (hin 2 (by decide)) (hin 3 (by decide)) kend
    · exact law_11 C S hNN H.2.2.2.2.2.2.2.2.2.2.2.1 hInv b1 b2 b3 b4 (hin 1 (by decide)) (hin 2 (by decide)) (hin 3 (by decide)) kend
    · exact law_12 C S hNN H.2.2.2.2.2.2.2.2.2.2.2.2.1 hInv b1 b2 b3 b4 (hin 1 (by decide)) (hin 2 (by decide)) (hin 3 (by decide)) kend
    · exact law_13 C S hNN H.2.2.2.2.2.2.2.2.2.2.2.2.2.1 hInv b1 b2 b3 b4 (hin 1 (by decide)) (hin 2 (by decide)) (hin 3 (by decide)) kend
    · exact law_14 C S hNN H.2.2.2.2.2.2.2.2.2.2.2.2.2.2.1 hInv b1 b2 b3 b4 (hin 1 (by decide)) (hin 2 (by decide)) (hin 3 (by decide)) kend
    · exact law_15 C S hNN H.2.2.2.2.2.2.2.2.2.2.2.2.2.2.2.1 hInv b1 b2 b3 b4 (hin 1 (by decide)) (hin 2 (by decide)) (hin 3 (by decide)) kend
    · exact law_16 C S hNN H.2.2.2.2.2.2.2.2.2.2.2.2.2.2.2.2.1 hInv b1 b2 b3 b4 (hin 1 (by decide)) (hin 2 (by decide)) (hin 3 (by decide)) kend
    · exact law_17 C S hNN H.2.2.2.2.2.2.2.2.2.2.2.2.2.2.2.2.2.1 hInv b1 b2 b3 b4 (hin 1 (by decide)) (hin 2 (by decide)) (hin 3 (by decide)) kend
    · exact law_18 C S hNN H.2.2.2.2.2.2.2.2.2.2.2.2.2.2.2.2.2.2.1 hInv b1 b2 b3 b4 (hin 1 (by decide)) (hin 2 (by decide)) (hin 3 (by decide)) kend
    · exact law_19 C S hNN H.2.2.2.2.2.2.2.2.2.2.2.2.2.2.2.2.2.2.2.1 hInv b1 b2 b3 b4 (hin 1 (by decide)) (hin 2 (by decide)) (hin 3 (by decide)) kend
    · exact law_20 C S hNN H.2.2.2.2.2.2.2.2.2.2.2.2.2.2.2.2.2.2.2.2.1 hInv b1 b2 b3 b4 (hin 1 (by decide)) (hin 2 (by decide)) (hin 3 (by decide)) kend
    · exact law_21 C S hNN H.2.2.2.2.2.2.2.2.2.2.2.2.2.2.2.2.2.2.2.2.2.1 hInv b1 b2 b3 b4 (hin 1 (by decide)) (hin 2 (by decide)) (hin 3 (by decide)) kend
    · exact law_22 C S hNN H.2.2.2.2.2.2.2.2.2.2.2.2.2.2.2.2.2.2.2.2.2.2 hInv b1 b2 b3 b4 (hin 1 (by decide)) (hin 2 (by decide)) (hin 3 (by decide)) kend
theorem nl_L_8 : Cond.classLink "BarrierMarksLaw" 8 "BarrierMarks" ∈ zTs := (zm 17 zq1 (by decide +kernel) rfl)
theorem nl_L_102 : Cond.classLink "BarrierMarksLaw" 102 "BarrierMarksModel" ∈ zTs := (zm 58 zq4 (by decide +kernel) rfl)
theorem ni_5 : Cond.instantiable "BarrierMarks" 10 ∈ zTs := (zm 18 zq1 (by decide +kernel) rfl)
theorem nz_5 : Cond.initialized "BarrierMarks" ∈ zTs := (zm 1 zq1 (by decide +kernel) rfl)
theorem nj_6 : Cond.instantiable "BarrierMarksModel" 34 ∈ zTs := (zm 59 zq4 (by decide +kernel) rfl)
theorem nk_6 : Cond.initialized "BarrierMarksModel" ∈ zTs := (zm 5 zq1 (by decide +kernel) rfl)
theorem cn_L_99 : zCI "BarrierMarksLaw" 99 ⟨"BarrierMarks", "<init>", "(I)V"⟩ prog_1_method_1_code 4 1 := ⟨(zm 19 zq1 (by decide +kernel) rfl), (zm 20 zq1 (by decide +kernel) rfl), (zm 1 zq1 (by decide +kernel) rfl), (zm 21 zq1 (by decide +kernel) rfl), rfl, by decide, by decide, by decide +kernel⟩
theorem cn_L_104 : zCI "BarrierMarksLaw" 104 ⟨"BarrierMarksModel", "<init>", "(I)V"⟩ prog_9_method_1_code 3 1 := ⟨(zm 60 zq4 (by decide +kernel) rfl), (zm 61 zq4 (by decide +kernel) rfl), (zm 5 zq1 (by decide +kernel) rfl), (zm 62 zq4 (by decide +kernel) rfl), rfl, by decide, by decide, by decide +kernel⟩
/-- arrays' classes -/
theorem l_arrP {args : Array Value} {s : State} {ty : FieldType} (hra : ∀ (s : State) (cA : ClassId), va_RA s cA ty = (s.vm.findClass ("[" ++ ty.toString) = some cA)) (h : (Cond.arrayClass ty).before args s = true) : ∃ cA, ArrOfT s cA ty ∧ va_RA s cA ty := by
  obtain ⟨c, k, comp, h1, h2, h3⟩ := Cond.arrayClass_spec h
  exact ⟨c, fun n z => ⟨fun k h => (by cases h), k, h2, comp, h3⟩, by rw [hra]; exact h1⟩
theorem l_arrO {args : Array Value} {s : State} {E : String} (h : (Cond.arrayOver (.object E)).before args s = true) : ∃ cA, ArrOfT s cA (.object E) ∧ va_RA s cA (.object E) := by
  obtain ⟨comp, c, k, h1, h2, h3, h4, h5⟩ := Cond.arrayOver_spec h
  exact ⟨c, fun n z => ⟨fun k h => (by cases h), k, h3, comp, h4⟩, k, comp, h3, h4, h1, h5⟩
theorem l_w1 : ∀ q ∈ zstr, Cond.stringRef q.1 q.2.1 q.2.2 ∈ lw_tbl := by decide +kernel
theorem l_w2 : ∀ q ∈ zstr, Cond.exactly (.string q.1 q.2.1) "java/lang/String" ∈ flatC (Jvm.Cond.and given_1 narrow_1) := by decide +kernel
theorem l_w3 : ∀ q ∈ znc, Cond.not (.castable q.1 q.2) ∈ flatC (Jvm.Cond.and given_1 narrow_1) := by decide +kernel
theorem l_w4 : ∀ q ∈ znc2, Cond.not (.castable q.1 q.2) ∈ flatC (Jvm.Cond.and given_1 narrow_1) := by decide +kernel
theorem l_w5 : ∀ q ∈ zcast, Cond.castable q.1 q.2 ∈ lw_tbl := by decide +kernel
theorem l_w6 : ∀ y ∈ zdecl, Cond.declares y ∈ lw_tbl := by decide +kernel
theorem l_w7 : Cond.methodLinkNest "BarrierMarks" 23 ⟨"BarrierMarks$AckRow", "<init>", "()V"⟩ "BarrierMarks" ∈ lw_tbl := by decide +kernel
theorem l_w8 : ∀ E ∈ zao, Cond.arrayOver (.object E) ∈ lw_tbl := by decide +kernel
theorem l_w9 : Cond.laysStatic Bundle.tN "UNASSIGNED_STACK" Bundle.steD ∈ lw_tbl ∧ Cond.laysStatic Bundle.tN "SUPPRESSED_SENTINEL" Bundle.listD ∈ lw_tbl ∧ Cond.initialized Bundle.tN ∈ lw_tbl := by decide +kernel
theorem l_w10 : Cond.isRef (.static Bundle.tN "UNASSIGNED_STACK" Bundle.steD) ∈ flatC (Jvm.Cond.and given_1 narrow_1) ∧ Cond.isRef (.static Bundle.tN "SUPPRESSED_SENTINEL" Bundle.listD) ∈ flatC (Jvm.Cond.and given_1 narrow_1) := by decide +kernel
theorem l_w11 : Cond.arrayClass .int ∈ lw_tbl ∧ Cond.arrayClass .long ∈ lw_tbl ∧ Cond.arrayClass .boolean ∈ lw_tbl := by decide +kernel
theorem l_zT {args : Array Value} {s : State} (hts : ∀ w ∈ lw_tbl, w.before args s = true) (hgv : (Jvm.Cond.and given_1 narrow_1).before args s = true) : zT (fun q => s.heap.size ≤ q) s := by
  have hs := flat_of_before _ hgv
  have hA : ∀ a : Nat, a < s.heap.size → ¬ (fun q => s.heap.size ≤ q) a := fun a h => Nat.not_le.mpr h
  refine ⟨vx_Zqof (hts _ l_w9.1) (hts _ l_w9.2.2) (hs _ l_w10.1) hA, vx_Zqof (hts _ l_w9.2.1) (hts _ l_w9.2.2) (hs _ l_w10.2) hA, fun q hq => ?_, fun q hq => va_Nc.of (hs _ (l_w3 q hq)), fun q hq => va_Nw.of rfl (hts _ (l_w5 q hq)), fun y hy => va_Nw.of rfl (hts _ (l_w6 y hy)), va_Nw.of rfl (hts _ l_w7), fun E hE => va_AO.of (hts _ (l_w8 E hE))⟩
  obtain ⟨a, c, cell, k, q1, -⟩ := Cond.exactly_spec (hs _ (l_w2 q hq))
  exact ⟨a, vk_R.of (hts _ (l_w1 q hq)) q1⟩
theorem l_known {args : Array Value} {s : State} (hts : ∀ w ∈ lw_tbl, w.before args s = true) : ∃ (D : va_G) (dA : Nat → ClassId), va_K D zcl [] s ∧ ∀ (t : Nat) (ty : FieldType), ztl[t]? = some ty → ArrOfT s (dA t) ty ∧ va_RA s (dA t) ty := by
  obtain ⟨c0, i0, k0⟩ := u_known (C := zC0) (T := zT0) (N := 4) (n := 4) hts (fun w hw => zTs_in w (zi0 w hw)) (hts (.instantiable zC0 4) (by decide +kernel))
  obtain ⟨c1, i1, k1⟩ := u_known (C := zC1) (T := zT1) (N := 13) (n := 13) hts (fun w hw => zTs_in w (zi1 w hw)) (hts (.instantiable zC1 13) (by decide +kernel))
  obtain ⟨c2, i2, k2⟩ := u_known (C := zC2) (T := zT2) (N := 7) (n := 7) hts (fun w hw => zTs_in w (zi2 w hw)) (hts (.instantiable zC2 7) (by decide +kernel))
  obtain ⟨c3, i3, k3⟩ := u_known (C := zC3) (T := zT3) (N := 9) (n := 9) hts (fun w hw => zTs_in w (zi3 w hw)) (hts (.instantiable zC3 9) (by decide +kernel))
  obtain ⟨c4, i4, k4⟩ := u_known (C := zC4) (T := zT4) (N := 9) (n := 9) hts (fun w hw => zTs_in w (zi4 w hw)) (hts (.instantiable zC4 9) (by decide +kernel))
  obtain ⟨c5, i5, k5⟩ := u_known (C := zC5) (T := zT5) (N := 10) (n := 10) hts (fun w hw => zTs_in w (zi5 w hw)) (hts (.instantiable zC5 10) (by decide +kernel))
  obtain ⟨c6, i6, k6⟩ := u_known (C := zC6) (T := zT6) (N := 34) (n := 34) hts (fun w hw => zTs_in w (zi6 w hw)) (hts (.instantiable zC6 34) (by decide +kernel))
  obtain ⟨a0, g0⟩ := l_arrP (ty := .int) (fun _ _ => rfl) (hts _ l_w11.1)
  obtain ⟨a1, g1⟩ := l_arrP (ty := .long) (fun _ _ => rfl) (hts _ l_w11.2.1)
  obtain ⟨a2, g2⟩ := l_arrP (ty := .boolean) (fun _ _ => rfl) (hts _ l_w11.2.2)
  obtain ⟨a3, g3⟩ := l_arrO (hts (Cond.arrayOver (.object "BarrierMarks$Task")) (by decide +kernel))
  obtain ⟨a4, g4⟩ := l_arrO (hts (Cond.arrayOver (.object "BarrierMarks$Channel")) (by decide +kernel))
  obtain ⟨a5, g5⟩ := l_arrO (hts (Cond.arrayOver (.object "BarrierMarks$Line")) (by decide +kernel))
  obtain ⟨a6, g6⟩ := l_arrO (hts (Cond.arrayOver (.object "BarrierMarks$Mark")) (by decide +kernel))
  refine ⟨((fun k => if k = 0 then c0 else if k = 1 then c1 else if k = 2 then c2 else if k = 3 then c3 else if k = 4 then c4 else if k = 5 then c5 else c6), (fun k => if k = 0 then i0 else if k = 1 then i1 else if k = 2 then i2 else if k = 3 then i3 else if k = 4 then i4 else if k = 5 then i5 else i6)), (fun k => if k = 0 then a0 else if k = 1 then a1 else if k = 2 then a2 else if k = 3 then a3 else if k = 4 then a4 else if k = 5 then a5 else a6), ⟨?_, fun k q h => by simp at h⟩, ?_⟩
  · intro k q hq
    match k, hq with
    | 0, hq => cases hq; exact k0
    | 1, hq => cases hq; exact k1
    | 2, hq => cases hq; exact k2
    | 3, hq => cases hq; exact k3
    | 4, hq => cases hq; exact k4
    | 5, hq => cases hq; exact k5
    | 6, hq => cases hq; exact k6
    | k + 7, hq => simp [zcl] at hq
  · intro t ty ht
    match t, ht with
    | 0, ht => cases ht; exact g0
    | 1, ht => cases ht; exact g1
    | 2, ht => cases ht; exact g2
    | 3, ht => cases ht; exact g3
    | 4, ht => cases ht; exact g4
    | 5, ht => cases ht; exact g5
    | 6, ht => cases ht; exact g6
    | t + 7, ht => simp [ztl] at ht
def R_law : String := "BarrierMarksLaw"
def lw_P (b : Addr) (xs : List Int32) (args : Array Value) (s : State) : Prop := args = #[.ref b] ∧ s.IntsAt b xs ∧ xs.length ≤ 2049 ∧ (Jvm.Cond.and given_1 narrow_1).before args s = true
def lw_Q (_ : Array Value) (s : State) (o : Outcome) (t : State) : Prop := o = .returned (some (.int 1)) ∧ Framed s o t [] 601024 7292999
def lw_Z (below : List Frame) (a : Array Value) (s : State) : State → Prop := fun t => ∃ o, t.status = .running ∧ Ended t below o ∧ lw_Q a s o t
/-- the law's own end, with 1 on the stack, nothing written that was there before, its room as the claim has it -/
theorem lw_ret {p : Program} {l : Launch} {e : Env} {s : State} {m : MethodId} {below : List Frame} {meth : Method} {c : Code} {b : Nat} (hx : p.tables.exec = Jvm.exec) (hb : c.code = code) (hr : meth.sig.returnType = ret) (hlocks : meth.locks = false) {pc : Nat} {H : Heap} {ls : Array Slot} (hdg : decode code pc = .ok (.ireturn, 1)) : W p l e room_1 s m #[Value.ref b] below meth c H [] 601024 7292999 (lw_Z below #[Value.ref b] s) (F0 m pc ls [.int 1]) := by
  intro T hT X
  obtain ⟨fs, hret, hrun, hended, hW, hframe⟩ := X.leave (v := some (.int 1)) (hlocks := hlocks) (fun h => by rw [hr] at h; cases h)
  have hmeth' : T.vm.method? m = some meth := X.method'
  refine ⟨T.setFrames fs, ?_, .returned (some (.int 1)), hrun, hended, rfl, ⟨_, rfl⟩, hW, hframe⟩
  jvm_step X.here [X.here.top, hx, hb, hdg, hmeth', hr, ret, narrow_b1]
  (try refine ⟨rfl, ?_⟩); (try refine ⟨rfl, ?_⟩)
  first | (intro acts; rw [hret _ acts rfl rfl rfl]) | rw [hret _ _ rfl rfl rfl]
  exact Steps.refl _
/-- what holds at the law's entry: the machine, the code, the tables' words (any of lw_tbl by 'hts w (by decide +kernel)'), the script of L ints xs at the cell b, what the Statement gives of the start (any of its parts by flat_of_before) -/
def lw_At (p : Program) (s : State) (m : MethodId) (meth : Method) (c : Code) (b L : Nat) (xs : Nat → Int32) : Prop :=
  p.tables.exec = Jvm.exec ∧ c.code = code ∧ meth.sig.returnType = ret ∧ c.maxLocals = 8 ∧ s.vm.findClass R_law = some m.cls ∧ (∀ w ∈ lw_tbl, w.before #[Value.ref b] s = true) ∧ va_X b L xs s s.heap ∧ b < s.heap.size ∧ meth.locks = false ∧ (Jvm.Cond.and given_1 narrow_1).before #[Value.ref b] s = true
set_option maxHeartbeats 4000000 in
set_option maxRecDepth 100000 in
theorem whole_open {Inv : LI} (hOk : LOk Inv) {p : Program} {e : Env} {s : State} {m : MethodId} {below : List Frame} {meth : Method} {c : Code} (l : Launch) (hl : l.stackTraces = false) {b L : Nat} {xs : Nat → Int32} (hL : L ≤ 2049) (C0 : lw_At p s m meth c b L xs) : W p l e room_1 s m #[Value.ref b] below meth c s.heap [] 0 0 (lw_Z below #[Value.ref b] s) (entryFrame m ([Value.ref b] : List Value).toArray 8) := by
  obtain ⟨hx, hb, hr, hml, hown, hts, hX, hbl, hlocks, hgv⟩ := id C0
  obtain ⟨D, dA, hK1, hK2⟩ := l_known hts
  have C : gC (p, l, e, room_1, s, m, #[Value.ref b], below, meth, c, D, dA) (fun q => s.heap.size ≤ q) code "BarrierMarksLaw" 8 12 444 601024 7292999 := ⟨hx, hb, hml, hown, fun w hw => hts w (zTs_in w hw), ⟨hK1, hK2, l_zT hts hgv⟩, fun _ h => h, hlocks, hl, rfl⟩
  have S : gS (p, l, e, room_1, s, m, #[Value.ref b], below, meth, c, D, dA) (fun q => s.heap.size ≤ q) b L xs := ⟨hX, hbl, Nat.not_le.mpr hbl⟩
  have hNN : hN s := fun q hq => va_Nc.of (flat_of_before _ hgv _ (l_w4 q hq))
  have hl0 := lv_entry ([.ref b] : List Value) (n := 8) (Nat.le_of_ble_eq_true rfl)
  rw [lg_entry_eq]
  obtain ⟨hI, hSt⟩ := hOk
  have key : gZ (p, l, e, room_1, s, m, #[Value.ref b], below, meth, c, D, dA) (fun q => s.heap.size ≤ q) (lw_Z below #[Value.ref b] s) 8 0 0 (fun _ => none) s.heap.size 0 [(0, .ref b)] [] := by
    have kret : ∀ (V : zV) (n cells slots : Nat) (lv : List (Nat × Value)), cells ≤ 601024 → slots ≤ 7292999 → gZ (p, l, e, room_1, s, m, #[Value.ref b], below, meth, c, D, dA) (fun q => s.heap.size ≤ q) (lw_Z below #[Value.ref b] s) 8 cells slots V n 1618 lv [] := by
      intro V n cells slots lv h1 h2
      refine g_iconst (v := 1) C dL_1618 (by decide) ?_
      intro H locs ls hH hls
      refine va_forget (fun q hq => hH.1.2.2 q hq) ?_
      refine W.widen h1 h2 ?_
      exact lw_ret hx hb hr hlocks dL_1619
    obtain ⟨V1, n1, V2, n2, e1, e2, hInv⟩ := hI s.heap.size (cellv xs L)
    have hM1 := fun (l : Launch) (D : va_G) (dA : Nat → ClassId) (hl : l.stackTraces = false) => mB_init (l := l) (D := D) (dA := dA) hl e1
    have hM2 := fun (l : Launch) (D : va_G) (dA : Nat → ClassId) (hl : l.stackTraces = false) => mR_init (l := l) (D := D) (dA := dA) hl e2
    refine g_new C (ci := 5) rfl zi5 zt5 zd5 nl_L_8 ni_5 nz_5 (by decide) (by decide) dL_0 ?_
    refine g_dup C dL_3 rfl ?_
    refine g_aload_n C 0 dL_4 rfl rfl ?_
    refine g_iconst (v := 0) C dL_5 (by decide) ?_
    refine g_callCell C S (by omega) (by decide) (by decide) (Nat.le_of_ble_eq_true rfl) dL_6 (by decide) (by decide) ?_
    refine g_core (w1 := (.inl none, V1, n1)) C (g_runI (As := [.int (cellv xs L)]) C cn_L_99 hM1 rfl (by decide) (by decide) rfl rfl (Nat.le_of_ble_eq_true rfl) dL_9 (by decide) (by decide)) (fun v hv => ?_) (fun E n9 hE => by cases hE)
    cases hv
    refine g_astore_n (lv' := [(1, .ref s.heap.size), (0, .ref b)]) (i := 1) C dL_12 rfl (by decide) rfl ?_
    refine g_new C (ci := 6) rfl zi6 zt6 zd6 nl_L_102 nj_6 nk_6 (by decide) (by decide) dL_13 ?_
    refine g_dup C dL_16 rfl ?_
    refine g_aload_n C 1 dL_17 rfl rfl ?_
    refine g_iconst (v := 0) C dL_18 (by decide) ?_
    refine g_callCell C S (by omega) (by decide) (by decide) (Nat.le_of_ble_eq_true rfl) dL_19 (by decide) (by decide) ?_
    refine g_core (w1 := (.inl none, V2, n2)) C (g_runI (As := [.int (cellv xs L)]) C cn_L_104 hM2 rfl (by decide) (by decide) rfl rfl (Nat.le_of_ble_eq_true rfl) dL_22 (by decide) (by decide)) (fun v hv => ?_) (fun E n9 hE => by cases hE)
    cases hv
    refine g_astore_n (lv' := [(2, .ref n1), (1, .ref s.heap.size), (0, .ref b)]) (i := 2) C dL_25 rfl (by decide) rfl ?_
    refine g_iconst (v := 1) C dL_26 (by decide) ?_
    refine g_newaL (N := 1) C na_1 (by decide) rfl (by decide) (by decide) (by decide) dL_27 ?_
    refine g_astore_n (lv' := [(3, .ref n2), (2, .ref n1), (1, .ref s.heap.size), (0, .ref b)]) (i := 3) C dL_29 rfl (by decide) rfl ?_
    refine g_iconst (v := 1) C dL_30 (by decide) ?_
    refine g_istore (lv' := [(4, .int 1), (3, .ref n2), (2, .ref n1), (1, .ref s.heap.size), (0, .ref b)]) C dL_31 (by decide) rfl ?_
    refine g_sub [4, 3, 2, 1, 0] rfl ?_
    refine g_widen (c2 := lcC 0) (s2 := lcS 0) (by decide) (by decide) ?_
    exact law_loop C S hNN hL hSt kret (L + 4) 0 _ _ _ _ _ 1 rfl (Nat.zero_le _) (by omega) hInv
  exact key s.heap [] _ ⟨va_S.rf, rfl, fun a y ha => (by cases ha), fun a y ha => (by cases ha)⟩ hl0
